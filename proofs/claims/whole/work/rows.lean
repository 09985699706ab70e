section
-- ===== PART A: goes FIRST, ahead of the names: the tables' words, and 'selects' of the private methods out of them =====
/-- a private method of a class that the tables say can be made, by its rows of tables_1 -/
def lw_okq (q : MethodName × Nat) : Prop := (q.1.cls ≠ "java/lang/invoke/MethodHandle" ∧ q.1.cls ≠ "java/lang/invoke/VarHandle") ∧ Cond.instantiable q.1.cls q.2 ∈ tables_1 ∧ Cond.privateMethod q.1 ∈ tables_1 ∧ Cond.instanceMethod q.1 ∈ tables_1
theorem lw_p0 : lw_okq (⟨"java/lang/Throwable", "fillInStackTrace", "(I)Ljava/lang/Throwable;"⟩, 6) := ⟨⟨by decide +kernel, by decide +kernel⟩, List.mem_of_getElem? (i := 174) (by decide +kernel), List.mem_of_getElem? (i := 172) (by decide +kernel), List.mem_of_getElem? (i := 173) (by decide +kernel)⟩
theorem lw_p1 : lw_okq (⟨"GlassLabels", "giveOrder", "(LGlassLabels$Label;)V"⟩, 6) := ⟨⟨by decide +kernel, by decide +kernel⟩, List.mem_of_getElem? (i := 14) (by decide +kernel), List.mem_of_getElem? (i := 223) (by decide +kernel), List.mem_of_getElem? (i := 224) (by decide +kernel)⟩
theorem lw_p2 : lw_okq (⟨"GlassLabels", "labelOf", "(I)LGlassLabels$Label;"⟩, 6) := ⟨⟨by decide +kernel, by decide +kernel⟩, List.mem_of_getElem? (i := 14) (by decide +kernel), List.mem_of_getElem? (i := 265) (by decide +kernel), List.mem_of_getElem? (i := 266) (by decide +kernel)⟩
theorem lw_p3 : lw_okq (⟨"GlassLabels", "passOneMinute", "()I"⟩, 6) := ⟨⟨by decide +kernel, by decide +kernel⟩, List.mem_of_getElem? (i := 14) (by decide +kernel), List.mem_of_getElem? (i := 300) (by decide +kernel), List.mem_of_getElem? (i := 301) (by decide +kernel)⟩
theorem lw_p4 : lw_okq (⟨"GlassLabels$Label", "redraw", "(I)V"⟩, 8) := ⟨⟨by decide +kernel, by decide +kernel⟩, List.mem_of_getElem? (i := 42) (by decide +kernel), List.mem_of_getElem? (i := 309) (by decide +kernel), List.mem_of_getElem? (i := 310) (by decide +kernel)⟩
theorem lw_p5 : lw_okq (⟨"GlassLabels$Label", "answer", "()V"⟩, 8) := ⟨⟨by decide +kernel, by decide +kernel⟩, List.mem_of_getElem? (i := 42) (by decide +kernel), List.mem_of_getElem? (i := 316) (by decide +kernel), List.mem_of_getElem? (i := 317) (by decide +kernel)⟩
theorem lw_p6 : lw_okq (⟨"GlassLabels", "endMinute", "()V"⟩, 6) := ⟨⟨by decide +kernel, by decide +kernel⟩, List.mem_of_getElem? (i := 14) (by decide +kernel), List.mem_of_getElem? (i := 320) (by decide +kernel), List.mem_of_getElem? (i := 321) (by decide +kernel)⟩
theorem lw_p7 : lw_okq (⟨"GlassLabels", "leastShownNow", "(I)I"⟩, 6) := ⟨⟨by decide +kernel, by decide +kernel⟩, List.mem_of_getElem? (i := 14) (by decide +kernel), List.mem_of_getElem? (i := 374) (by decide +kernel), List.mem_of_getElem? (i := 375) (by decide +kernel)⟩
theorem lw_p8 : lw_okq (⟨"GlassLabelsModel", "holds", "(I)Z"⟩, 15) := ⟨⟨by decide +kernel, by decide +kernel⟩, List.mem_of_getElem? (i := 394) (by decide +kernel), List.mem_of_getElem? (i := 460) (by decide +kernel), List.mem_of_getElem? (i := 461) (by decide +kernel)⟩
theorem lw_p9 : lw_okq (⟨"GlassLabelsModel", "gets", "(I)V"⟩, 15) := ⟨⟨by decide +kernel, by decide +kernel⟩, List.mem_of_getElem? (i := 394) (by decide +kernel), List.mem_of_getElem? (i := 464) (by decide +kernel), List.mem_of_getElem? (i := 465) (by decide +kernel)⟩
theorem lw_p10 : lw_okq (⟨"GlassLabelsModel", "isLabel", "(I)Z"⟩, 15) := ⟨⟨by decide +kernel, by decide +kernel⟩, List.mem_of_getElem? (i := 394) (by decide +kernel), List.mem_of_getElem? (i := 480) (by decide +kernel), List.mem_of_getElem? (i := 481) (by decide +kernel)⟩
theorem lw_p11 : lw_okq (⟨"GlassLabelsModel", "goes", "()I"⟩, 15) := ⟨⟨by decide +kernel, by decide +kernel⟩, List.mem_of_getElem? (i := 394) (by decide +kernel), List.mem_of_getElem? (i := 500) (by decide +kernel), List.mem_of_getElem? (i := 501) (by decide +kernel)⟩
theorem lw_p12 : lw_okq (⟨"GlassLabelsModel", "longest", "()I"⟩, 15) := ⟨⟨by decide +kernel, by decide +kernel⟩, List.mem_of_getElem? (i := 394) (by decide +kernel), List.mem_of_getElem? (i := 504) (by decide +kernel), List.mem_of_getElem? (i := 505) (by decide +kernel)⟩
theorem lw_p13 : lw_okq (⟨"GlassLabelsModel", "sends", "(I)V"⟩, 15) := ⟨⟨by decide +kernel, by decide +kernel⟩, List.mem_of_getElem? (i := 394) (by decide +kernel), List.mem_of_getElem? (i := 508) (by decide +kernel), List.mem_of_getElem? (i := 509) (by decide +kernel)⟩
theorem lw_p14 : lw_okq (⟨"GlassLabelsModel", "redraws", "(I)V"⟩, 15) := ⟨⟨by decide +kernel, by decide +kernel⟩, List.mem_of_getElem? (i := 394) (by decide +kernel), List.mem_of_getElem? (i := 512) (by decide +kernel), List.mem_of_getElem? (i := 513) (by decide +kernel)⟩
theorem lw_p15 : lw_okq (⟨"GlassLabelsModel", "leastNow", "(I)I"⟩, 15) := ⟨⟨by decide +kernel, by decide +kernel⟩, List.mem_of_getElem? (i := 394) (by decide +kernel), List.mem_of_getElem? (i := 519) (by decide +kernel), List.mem_of_getElem? (i := 520) (by decide +kernel)⟩
def lw_privs_1 : List (MethodName × Nat) := [(⟨"java/lang/Throwable", "fillInStackTrace", "(I)Ljava/lang/Throwable;"⟩, 6), (⟨"GlassLabels", "giveOrder", "(LGlassLabels$Label;)V"⟩, 6), (⟨"GlassLabels", "labelOf", "(I)LGlassLabels$Label;"⟩, 6), (⟨"GlassLabels", "passOneMinute", "()I"⟩, 6), (⟨"GlassLabels$Label", "redraw", "(I)V"⟩, 8), (⟨"GlassLabels$Label", "answer", "()V"⟩, 8), (⟨"GlassLabels", "endMinute", "()V"⟩, 6), (⟨"GlassLabels", "leastShownNow", "(I)I"⟩, 6), (⟨"GlassLabelsModel", "holds", "(I)Z"⟩, 15), (⟨"GlassLabelsModel", "gets", "(I)V"⟩, 15), (⟨"GlassLabelsModel", "isLabel", "(I)Z"⟩, 15), (⟨"GlassLabelsModel", "goes", "()I"⟩, 15), (⟨"GlassLabelsModel", "longest", "()I"⟩, 15), (⟨"GlassLabelsModel", "sends", "(I)V"⟩, 15), (⟨"GlassLabelsModel", "redraws", "(I)V"⟩, 15), (⟨"GlassLabelsModel", "leastNow", "(I)I"⟩, 15)]
theorem lw_r1 : ∀ q ∈ lw_privs_1, lw_okq q := List.forall_mem_cons.mpr ⟨lw_p0, List.forall_mem_cons.mpr ⟨lw_p1, List.forall_mem_cons.mpr ⟨lw_p2, List.forall_mem_cons.mpr ⟨lw_p3, List.forall_mem_cons.mpr ⟨lw_p4, List.forall_mem_cons.mpr ⟨lw_p5, List.forall_mem_cons.mpr ⟨lw_p6, List.forall_mem_cons.mpr ⟨lw_p7, List.forall_mem_cons.mpr ⟨lw_p8, List.forall_mem_cons.mpr ⟨lw_p9, List.forall_mem_cons.mpr ⟨lw_p10, List.forall_mem_cons.mpr ⟨lw_p11, List.forall_mem_cons.mpr ⟨lw_p12, List.forall_mem_cons.mpr ⟨lw_p13, List.forall_mem_cons.mpr ⟨lw_p14, List.forall_mem_cons.mpr ⟨lw_p15, fun _ h => absurd h List.not_mem_nil⟩⟩⟩⟩⟩⟩⟩⟩⟩⟩⟩⟩⟩⟩⟩⟩
def lw_privs : List (MethodName × Nat) := lw_privs_1
def lw_tbl : List Cond := k2_sels lw_privs ++ tables_1
theorem lw_privs_ok : ∀ q ∈ lw_privs, lw_okq q := lw_r1
end
section
/-! ===== BEGIN words of one list among another's, by their places ===== -/
theorem goodIn_r {big : List Cond} (ws : List Cond) (ps : List Nat) (hp : ws = ps.filterMap (fun i => big[i]?)) (h : ws.all goodWord = true) : GoodIn big ws := by
  intro w hw
  have h1 := List.all_eq_true.mp h w hw
  rw [hp] at hw
  obtain ⟨i, -, hi⟩ := List.mem_filterMap.mp hw
  have hm : w ∈ big := by first | exact List.mem_of_getElem? hi | exact List.getElem?_mem hi
  exact ⟨hm, good_of_word h1⟩
theorem goodIn_app {big a b : List Cond} (ha : GoodIn big a) (hb : GoodIn big b) : GoodIn big (a ++ b) := fun w h => (List.mem_append.mp h).elim (ha w) (hb w)
theorem goodIn_ca {big a b : List Cond} {c : Cond} (ha : GoodIn big (c :: a)) (hb : GoodIn big b) : GoodIn big (c :: (a ++ b)) := fun w h => (List.mem_cons.mp h).elim (fun e => ha w (List.mem_cons.mpr (Or.inl e))) (fun h => (List.mem_append.mp h).elim (fun h => ha w (List.mem_cons.mpr (Or.inr h))) (hb w))
theorem goodIn_sub {big ws : List Cond} (hm : ∀ w ∈ ws, w ∈ big) (h : ws.all goodWord = true) : GoodIn big ws := fun w hw => ⟨hm w hw, good_of_word (List.all_eq_true.mp h w hw)⟩
/-! ===== END ===== -/

/-! ===== BEGIN new T[n][m]: the outer array a place, the inner ones among the pooled ===== -/
/-- the array class over 'array ty' stands (as va_AO for a class's array) -/
def va_AOA (ty : FieldType) (U : State) : Prop := (Cond.arrayOver (.array ty)).before #[] U = true
theorem va_AOA.use {ty : FieldType} {A : Array Value} {U : State} (h : va_AOA ty U) : (Cond.arrayOver (.array ty)).before A U = true := h
/-- f, but v at every address of l -/
def vr_up {α : Type} (f : Nat → α) (l : List Nat) (v : α) : Nat → α := fun a => if a ∈ l then v else f a
theorem vr_up_in {α : Type} {f : Nat → α} {l : List Nat} {v : α} {a : Nat} (h : a ∈ l) : vr_up f l v a = v := if_pos h
theorem vr_up_ne {α : Type} {f : Nat → α} {l : List Nat} {v : α} {a : Nat} (h : a ∉ l) : vr_up f l v a = f a := if_neg h
theorem vr_rows {L l : List Nat} {f : Nat → va_E} {e : va_E} (h : ∀ a, a ∈ l → a ∉ L) : va_pl L f ++ l.map (fun a => (a, e)) = va_pl (L ++ l) (vr_up f l e) := by
  unfold va_pl
  rw [List.map_append]
  congr 1
  · apply List.map_congr_left
    intro a ha
    rw [vr_up_ne (fun q => h a q ha)]
  · apply List.map_congr_left
    intro a ha
    rw [vr_up_in ha]
theorem vr_lay {X rows : va_W} {x : Nat × va_E} {pl : va_W} {D : va_G} {cl : List vw_C} {H : Heap} (hP : va_P D cl (((X ++ pl) ++ [x]) ++ rows) H) : va_P D cl ((X ++ [x]) ++ (pl ++ rows)) H := by
  rw [List.append_assoc (X ++ pl)] at hP
  have h := va_P.swap hP
  rw [← List.append_assoc X] at h
  have h2 := va_P.swap h
  rw [List.append_assoc (X ++ [x])] at h2
  exact h2
theorem vr_layD {X rows : va_W} {x : Nat × va_E} {pl : va_W} {A : Nat → Prop} (hD : va_D A (((X ++ pl) ++ [x]) ++ rows)) : va_D A ((X ++ [x]) ++ (pl ++ rows)) := by
  rw [List.append_assoc (X ++ pl)] at hD
  have h := va_D.swap hD
  rw [← List.append_assoc X] at h
  have h2 := va_D.swap h
  rw [List.append_assoc (X ++ [x])] at h2
  exact h2
theorem vr_outer (c : ClassId) (N h0 : Nat) : ∀ i : Nat, Jvm.Free.Multi.outerC c N h0 i = arrV c N (fun j => va_rf (if j < i then some (h0 + 1 + j) else none))
  | 0 => by
    show ({ cls := c, slots := Array.replicate N .null, vm := .none } : Cell) = _
    rw [arrV_new]
    refine congrArg (arrV c N) (funext fun j => ?_)
    simp [va_rf]
  | i + 1 => by
    show (Jvm.Free.Multi.outerC c N h0 i).setSlot i (.ref (h0 + 1 + i)) = _
    rw [vr_outer c N h0 i, arrV_store]
    refine congrArg (arrV c N) (funext fun j => ?_)
    by_cases e : j = i
    · subst e
      simp [updV, va_rf]
    · by_cases h : j < i
      · simp [updV, e, h, Nat.lt_succ_of_lt h]
      · simp [updV, e, h, show ¬ j < i + 1 by omega]
section VGM
variable {p : Program} {l : Launch} {e : Env} {R : Room} {s : State} {m : MethodId} {args : Array Value} {below : List Frame} {meth : Method} {c : Code} {H : Heap} {locs : List Loc} {cells slots : Nat} {Q : State → Prop}
variable {cc : ByteArray} {pc : Nat} {ls : Array Slot} {rest : List Value} {D : va_G} {cl : List vw_C} {A : Nat → Prop} {a : Nat} {tys : List (ClassId × FieldType)} {ws : va_W} {H0 : Heap}
theorem va_mna {X : va_W} {L : List Nat} {f : Nat → va_E} {cc : ByteArray} (hexec : p.tables.exec = Jvm.exec) (hb : c.code = cc) {own : String} {index : Nat} {ty : FieldType} {cy : ClassId} (hown : s.vm.findClass own = some m.cls) (hclink : (Cond.classLink own index ("[" ++ (FieldType.array ty).toString)).before args s = true) (hover : va_AOA ty s) (harr : (Cond.arrayClass ty).before args s = true) (hcy : s.vm.findClass (FieldType.array ty).toString = some cy)
    (hK : va_K D cl tys s) (hP : va_P D cl (X ++ va_pl L f) H) (hD : va_D A (X ++ va_pl L f)) (hS : va_S A H0 H locs) (hA : ∀ q, H0.size ≤ q → A q) {n k : Int32} {N' K' : Nat} {z : vp_A} (hn : ¬ n < 0) (hk : ¬ k < 0) (hN : n.toNatClampNeg = N') (hM : k.toNatClampNeg = K')
    (hb1 : N' * 4 ≤ 536870912) (hb2 : K' * componentBytes ty ≤ 536870912) (hb3 : K' ≤ 536870912) (hdf : fits ty (defaultValue ty) = true) (hdd : (defaultValue ty).isDefault = true) (hcells : cells + (1 + N') ≤ R.cells) (hslots : slots + (N' + N' * K') ≤ R.slots) (hz : ∀ c : ClassId, Jvm.Free.Multi.innerC c K' (defaultValue ty) = vp_cell c z) (hdg : decode cc pc = .ok (.multianewarray index 2, 4))
    (kk : ∀ (q : Nat) (r : Nat → Nat) (cA : ClassId) (H1 : Heap), (∀ i j : Nat, i < N' → j < N' → r i = r j → i = j) → (∀ i : Nat, i < N' → r i ∉ L) → va_K D cl (tys ++ [(cA, .array ty)]) s →
      va_P D cl ((X ++ [(q, .inl (cA, N', .inr (.inr (.inr (.inr (fun i => if i < N' then some (r i) else none))))))]) ++ va_pl (L ++ (List.range N').map r) (vr_up f ((List.range N').map r) (.inl (cy, z)))) H1 → va_D A ((X ++ [(q, .inl (cA, N', .inr (.inr (.inr (.inr (fun i => if i < N' then some (r i) else none))))))]) ++ va_pl (L ++ (List.range N').map r) (vr_up f ((List.range N').map r) (.inl (cy, z)))) → va_S A H0 H1 locs →
      W p l e R s m args below meth c H1 locs (cells + 1 + N') (slots + N' + N' * K') Q (F0 m (pc + 4) ls (.ref q :: rest))) : W p l e R s m args below meth c H locs cells slots Q (F0 m pc ls (.int k :: .int n :: rest)) := by
  subst hN
  subst hM
  intro T hT Xs
  obtain ⟨vm₁, cA, comp, -, fA, fC, hO, -, X', step⟩ := Xs.multianewarray2F hexec hown hclink (va_AOA.use hover) harr (g := F0 m pc ls (.int k :: .int n :: rest)) rfl (by rw [hb]; exact hdg) rfl hn hk hb1 hb2 hb3 hdf hdd hcells hslots
  have ec : some cy = some comp := hcy.symm.trans fC
  cases ec
  generalize hF : Jvm.Free.Multi.fill (T.setVm vm₁) cA cy n.toNatClampNeg k.toNatClampNeg (defaultValue ty) n.toNatClampNeg = F at X' step
  have hTh : (T.setVm vm₁).heap = H := hT
  obtain ⟨f1, f2, -, -⟩ := Jvm.Free.Multi.fill_facts (T.setVm vm₁) cA cy n.toNatClampNeg k.toNatClampNeg (defaultValue ty) n.toNatClampNeg
  rw [hF, hTh] at f1 f2
  have hold : ∀ x : Nat, x < H.size → F.heap[x]? = H[x]? := fun x hx => by
    have := Jvm.Free.Multi.fill_old (T.setVm vm₁) cA cy n.toNatClampNeg k.toNatClampNeg (defaultValue ty) (a := x) (by rw [hTh]; exact hx) n.toNatClampNeg
    rw [hF, hTh] at this
    exact this
  have hrow : ∀ j : Nat, j < n.toNatClampNeg → F.heap[H.size + 1 + j]? = some (vp_cell cy z) := fun j hj => by
    have := Jvm.Free.Multi.fill_inner (T.setVm vm₁) cA cy n.toNatClampNeg k.toNatClampNeg (defaultValue ty) n.toNatClampNeg j hj
    rw [hF, hTh, hz] at this
    exact this
  have hout : Jvm.Free.Multi.outerC cA n.toNatClampNeg H.size n.toNatClampNeg = vp_cell cA (n.toNatClampNeg, .inr (.inr (.inr (.inr (fun i => if i < n.toNatClampNeg then some (H.size + 1 + i) else none))))) := by
    rw [vp_cell_q]
    exact vr_outer cA n.toNatClampNeg H.size n.toNatClampNeg
  rw [hout] at f2
  have hlt : ∀ a, a ∈ L → a < H.size := fun a ha => by
    obtain ⟨k9, hk9⟩ := va_pl_get (X := X) (f := f) ha
    exact (hP k9 _ hk9).lt
  have hnl : ∀ i : Nat, i < n.toNatClampNeg → H.size + 1 + i ∉ L := fun i _ h => by
    have := hlt _ h
    omega
  have hnm : ∀ a, a ∈ (List.range n.toNatClampNeg).map (fun i => H.size + 1 + i) → a ∉ L := fun a ha h => by
    obtain ⟨i, -, rfl⟩ := List.mem_map.mp ha
    have := hlt _ h
    omega
  have hP0 : va_P D cl (X ++ va_pl L f) F.heap := hP.kept (fun k9 x hx => hold x.1 ((hP k9 x hx).lt))
  have hP1 : va_P D cl ((X ++ va_pl L f) ++ [(H.size, .inl (cA, n.toNatClampNeg, .inr (.inr (.inr (.inr (fun i => if i < n.toNatClampNeg then some (H.size + 1 + i) else none))))))]) F.heap := hP0.app (fun k9 x hx => by
    have h0 : k9 < 1 := (List.getElem?_eq_some_iff.mp hx).1
    rw [show k9 = 0 by omega] at hx
    cases hx
    exact f2)
  have hP2 : va_P D cl (((X ++ va_pl L f) ++ [(H.size, .inl (cA, n.toNatClampNeg, .inr (.inr (.inr (.inr (fun i => if i < n.toNatClampNeg then some (H.size + 1 + i) else none))))))]) ++ ((List.range n.toNatClampNeg).map (fun i => H.size + 1 + i)).map (fun a => (a, .inl (cy, z)))) F.heap := hP1.app (fun k9 x hx => by
    obtain ⟨a, ha, rfl⟩ := List.mem_map.mp (List.mem_of_getElem? hx)
    obtain ⟨i, hi, rfl⟩ := List.mem_map.mp ha
    exact hrow i (List.mem_range.mp hi))
  have hD2 : va_D A (((X ++ va_pl L f) ++ [(H.size, .inl (cA, n.toNatClampNeg, .inr (.inr (.inr (.inr (fun i => if i < n.toNatClampNeg then some (H.size + 1 + i) else none))))))]) ++ ((List.range n.toNatClampNeg).map (fun i => H.size + 1 + i)).map (fun a => (a, .inl (cy, z)))) := by
    have hD1 := hD.push (e := .inl (cA, n.toNatClampNeg, .inr (.inr (.inr (.inr (fun i => if i < n.toNatClampNeg then some (H.size + 1 + i) else none)))))) hP rfl (hA _ hS.1)
    generalize hW1 : (X ++ va_pl L f) ++ [(H.size, .inl (cA, n.toNatClampNeg, .inr (.inr (.inr (.inr (fun i => if i < n.toNatClampNeg then some (H.size + 1 + i) else none))))))] = W1 at hD1 hP1 ⊢
    have hle : ∀ (k9 : Nat) (x : Nat × va_E), W1[k9]? = some x → x.1 ≤ H.size := fun k9 x hx => by
      rw [← hW1] at hx
      by_cases hl : k9 < (X ++ va_pl L f).length
      · rw [List.getElem?_append_left hl] at hx
        exact Nat.le_of_lt ((hP k9 x hx).lt)
      · rw [List.getElem?_append_right (by omega)] at hx
        have h0 : k9 - (X ++ va_pl L f).length < 1 := (List.getElem?_eq_some_iff.mp hx).1
        rw [show k9 - (X ++ va_pl L f).length = 0 by omega] at hx
        cases hx
        exact Nat.le_refl _
    have hr : ∀ (k9 : Nat) (x : Nat × va_E), (((List.range n.toNatClampNeg).map (fun i => H.size + 1 + i)).map (fun a => ((a, .inl (cy, z)) : Nat × va_E)))[k9]? = some x → x.1 = H.size + 1 + k9 := fun k9 x hx => by
      rw [List.getElem?_map, List.getElem?_map] at hx
      by_cases h9 : k9 < n.toNatClampNeg
      · rw [List.getElem?_range h9] at hx
        cases hx
        rfl
      · have hn0 : (List.range n.toNatClampNeg)[k9]? = none := List.getElem?_eq_none (by rw [List.length_range]; omega)
        rw [hn0] at hx
        cases hx
    refine ⟨fun i j x y hi hj hxy => ?_, fun k9 x hx => ?_⟩
    · by_cases h1 : i < W1.length <;> by_cases h2 : j < W1.length
      · rw [List.getElem?_append_left h1] at hi
        rw [List.getElem?_append_left h2] at hj
        exact hD1.1 i j x y hi hj hxy
      · rw [List.getElem?_append_left h1] at hi
        rw [List.getElem?_append_right (by omega)] at hj
        have := hle _ _ hi
        have := hr _ _ hj
        omega
      · rw [List.getElem?_append_right (by omega)] at hi
        rw [List.getElem?_append_left h2] at hj
        have := hle _ _ hj
        have := hr _ _ hi
        omega
      · rw [List.getElem?_append_right (by omega)] at hi hj
        have := hr _ _ hi
        have := hr _ _ hj
        omega
    · by_cases h1 : k9 < W1.length
      · rw [List.getElem?_append_left h1] at hx
        exact hD1.2 k9 x hx
      · rw [List.getElem?_append_right (by omega)] at hx
        have := hr _ _ hx
        exact hA _ (by have := hS.1; omega)
  have hAr : ArrOfT s cA (.array ty) := fun N9 z9 => by
    obtain ⟨-, k9, hk9, cm9, hkk9⟩ := (hO 0 0 0).1
    exact ⟨(fun q hq => by cases hq), k9, hk9, cm9, hkk9⟩
  have hK2 : va_K D cl (tys ++ [(cA, .array ty)]) s := ⟨hK.1, fun k9 x hx => by
    by_cases hl : k9 < tys.length
    · rw [List.getElem?_append_left hl] at hx
      exact hK.2 k9 x hx
    · rw [List.getElem?_append_right (by omega)] at hx
      have h0 : k9 - tys.length < 1 := (List.getElem?_eq_some_iff.mp hx).1
      rw [show k9 - tys.length = 0 by omega] at hx
      cases hx
      exact ⟨hAr, fA⟩⟩
  obtain ⟨t, a1, b1⟩ := kk H.size (fun i => H.size + 1 + i) cA F.heap (fun i j _ _ h => by have h9 : H.size + 1 + i = H.size + 1 + j := h; omega) hnl hK2 (by rw [← vr_rows hnm]; exact vr_lay hP2) (by rw [← vr_rows hnm]; exact vr_layD hD2) ⟨by rw [f1]; have := hS.1; omega, fun x h1 h2 => (hold x (Nat.lt_of_lt_of_le h1 hS.1)).trans (hS.2.1 x h1 h2), hS.2.2⟩ F rfl X'
  refine ⟨t, step t ?_, b1⟩
  have e : T.heap.size = H.size := by rw [hT]
  rw [e]
  exact a1
end VGM
/-! ===== END ===== -/

/-! ===== BEGIN exceptions that leave a method, and their catching by the caller (launches without stack traces) ===== -/
section VXA
/-! The laws vx_back, vx_callV, vx_callS, vx_callSW, vx_throw0, vx_throwS follow proofs of the library, with one case more: JvmDerived/Free/Laws.lean (Back.of_free), Shelf42/LK1.lean (callV, callS), Shelf/KitTraced.lean (throwNew0V, throwNewS). -/
/-- where a method has thrown q: the class by its name, the cell, what was written, the world -/
def vx_T (XC : String → State → State → Prop) (st : State) (q : Addr) (t : State) (mc ms : Nat) (free : Addr → Prop) : Prop :=
  ∃ (E : String) (ce : Cell) (L : List Loc), XC E st t ∧ t.heap[q]? = some ce ∧ ce.vm = .none ∧ st.vm.findClass E = some ce.cls ∧ st.WarmedH t.vm ∧ st.sameButNew ({ t with vm := st.vm } : State) L mc ms ∧ ∀ z ∈ L, free z.base
def vx_Q (Qc : Array Value → State → Outcome → State → Prop) (XC : String → State → State → Prop) (mc ms : Nat) (free : Addr → Prop) : Array Value → State → Outcome → State → Prop := fun a st o t =>
  (Qc a st o t ∧ ∃ L, FrameEnd st o t L mc ms ∧ ∀ q ∈ L, free q.base) ∨ ∃ q, o = .threw q ∧ vx_T XC st q t mc ms free
/-- a callee that returns or throws -/
def vx_Met (l : Launch) (y : MethodName) (ws : List Cond) (rm : Room) (Pc : Array Value → State → Prop) (Qc : Array Value → State → Outcome → State → Prop) (XC : String → State → State → Prop) (mc ms : Nat) (free : Addr → Prop) : Prop :=
  MetFree l y (headSpec ws rm) Pc (fun _ _ _ _ _ => True) (vx_Q Qc XC mc ms free)
def vx_Post (XC : String → State → State → Prop) (mc ms : Nat) (free : Addr → Prop) : Pt → Array Value → Addr → Pt → Prop := fun A a q B =>
  ∃ (g : JFrame) (mk : MethodId) (t : State) (L : List Loc) (E : String) (ce : Cell), B.U.heap = t.heap ∧ B.U.vm = t.vm ∧ XC E (A.U.calling g mk a) t ∧ t.heap[q]? = some ce ∧ ce.vm = .none ∧ A.U.vm.findClass E = some ce.cls ∧ B.locs = A.locs ++ L ∧ (∀ z ∈ L, free z.base) ∧ B.cells = A.cells + mc ∧ B.slots = A.slots + ms
def vx_Back (l : Launch) (R : Room) (p : Program) (e : Env) (below : List Frame) (s : State) (sargs : Array Value) (y : MethodName) (len W9 : Nat)
    (Pre : Pt → Array Value → Prop) (Post : Pt → Array Value → Option Value → Pt → Prop) (PostX : Pt → Array Value → Addr → Pt → Prop) : Prop :=
  ∀ (m : MethodId) (meth : Method) (c : Code) (A : Pt) (g : JFrame) (ig : Instr) (mk : MethodId) (a : Array Value),
    Stand p l e R s m sargs below meth c A.U A.locs A.cells A.slots → g.method = m → g.locals.size = c.maxLocals → decode c.code g.pc = .ok (ig, len) →
    2 * g.monitorRoom + (g.stack.map fun v => v.category).sum ≤ W9 → A.U.methodNamed? y = some mk → Pre A a →
    (∃ (v : Option Value) (B : Pt), Stand p l e R s m sargs below meth c B.U B.locs B.cells B.slots ∧ Post A a v B ∧
      Steps p.tables e below (doInvoke e (A.U.setTop g) [] mk a).1 (B.U.setTop { g with pc := g.pc + len, stack := v.toList ++ g.stack })) ∨
    (∃ (q : Addr) (B : Pt), Stand p l e R s m sargs below meth c B.U B.locs B.cells B.slots ∧ PostX A a q B ∧
      Steps p.tables e below (doInvoke e (A.U.setTop g) [] mk a).1 ((B.U.setTop g).pushFrame (.throwing q)))
section Payer
variable {l : Launch} {R : Room} {p : Program} {e : Env} {below : List Frame} {s : State} {sargs : Array Value} {y : MethodName} {len W9 : Nat}
theorem vx_back {ws : List Cond} {rm : Room} {Pc : Array Value → State → Prop} {Qc : Array Value → State → Outcome → State → Prop} {XC : String → State → State → Prop} {mc ms : Nat} {free : Addr → Prop} {bytes : ByteArray} {maxL : Nat} {ret : Option FieldType}
    (hM : vx_Met l y ws rm Pc Qc XC mc ms free) (hblind : FrameBlind Pc) (hrc : rm.cells = mc) (hrs : rm.slots = ms)
    (hframes : rm.frames + 1 ≤ R.frames) (hlocals : W9 + (maxL + 11) + rm.locals ≤ R.locals)
    (hws : ∀ w ∈ ws, ∀ a' U, s.WarmedH U.vm → w.before a' U = true) (hcode : Cond.code y bytes maxL ret ∈ ws) (hinit : ∀ a' U, s.WarmedH U.vm → (Cond.initialized y.cls).before a' U = true) :
    vx_Back l R p e below s sargs y len W9 (PreOf R mc ms Pc) (PostOf Qc mc ms free) (vx_Post XC mc ms free) := by
  intro m meth c A g ig mk a X hg hsize hdg hW hn hp
  have h1 : (headSpec ws rm).pre.before a A.U = true := atoms_intro fun w hw => hws w hw _ _ X.warmed
  have h2 : (Cond.code y bytes maxL ret).before a A.U = true := hws _ hcode _ _ X.warmed
  have h3 : (Cond.initialized y.cls).before a A.U = true := hinit _ _ X.warmed
  have h4 : A.cells + (headSpec ws rm).room.cells ≤ R.cells := by rw [show (headSpec ws rm).room.cells = mc from hrc]; exact hp.1
  have h5 : A.slots + (headSpec ws rm).room.slots ≤ R.slots := by rw [show (headSpec ws rm).room.slots = ms from hrs]; exact hp.2.1
  have hPc : Pc a (A.U.calling g mk a) := hblind _ _ _ _ hp.2.2
  obtain ⟨U, Ls, c0, s0⟩ := A
  dsimp only [Pt.U, Pt.locs, Pt.cells, Pt.slots] at h1 h2 h3 h4 h5 X hn hPc ⊢
  obtain ⟨methY, cY, hmY, hcY, -, hlY, -, -, -, -⟩ := Cond.code_spec hn h2
  obtain ⟨kY, hkY, -⟩ := className_of_methodNamed hn
  have hinitY : kY.init = .initialized := Cond.initialized_spec (findClass_of_methodNamed hn) hkY h3
  have h : At U g.method c below := by rw [hg]; exact X.here
  have hlocals9 : W9 + (maxL + 11) + (headSpec ws rm).room.locals ≤ R.locals := hlocals
  have happ : (headSpec ws rm).appliesLoose y e.platform (U.calling g mk a) = true :=
    Spec.appliesLoose_calling (g := g) h hdg hn hkY hinitY
      (X.room_calling (g := g) (R' := (headSpec ws rm).room) hsize hmY hcY hframes (by rw [hlY]; omega) h4 h5) h1
  obtain ⟨mid, hmid⟩ := h.above
  have hfr : (U.setTop g).frames = (.java g :: mid) ++ below := by rw [State.frames_setTop' g h.top, hmid]; rfl
  obtain ⟨o, s₂, hsteps, -, hend, hq⟩ := Steps.callFree hM p X.admits X.cas X.clock (acts := []) hfr happ hPc trivial
  have hq' : vx_Q Qc XC mc ms free a (U.calling g mk a) o s₂ := hq
  rw [State.frames_setTop' g h.top] at hend
  obtain ⟨g₀, hg0⟩ := Option.isSome_iff_exists.mp h.top
  obtain ⟨r, hr⟩ := State.topJava?_eq_some.mp hg0
  have hr' : (({ U with heap := s₂.heap, slotsUsed := s₂.slotsUsed } : State).setVm s₂.vm).frames = .java g₀ :: r := hr
  rcases hq' with ⟨hqc, L, hfe, hL⟩ | ⟨q, rfl, E, ce, L, hx, hce, hcv, hcl, hW₂, hsm, hL⟩
  · obtain ⟨⟨v, rfl⟩, hW₂, e2, q2, q3, q4, q5, q6⟩ := id hfe
    have e3 : s₂ = ({ (U.calling g mk a).setFrames s₂.frames with heap := s₂.heap, slotsUsed := s₂.slotsUsed } : State).setVm s₂.vm := by
      have : s₂ = ({ s₂ with vm := (U.calling g mk a).vm } : State).setVm s₂.vm := rfl
      rw [e2] at this
      exact this
    obtain ⟨c₂, i₂, len₂, hc₂, hd₂, hf₂⟩ := hend
    have hW' : U.WarmedH s₂.vm := hW₂
    have hcc : c₂ = c := by
      have h1 : s₂.code? g.method = U.code? g.method := by
        rw [State.code?_eq, State.code?_eq, hW'.alike.method?]
      exact Option.some.inj (hc₂.symm.trans (h1.trans h.code))
    subst hcc
    have hlen : len₂ = len := by rw [hdg] at hd₂; cases hd₂; rfl
    subst hlen
    have hs₂ : s₂ = (({ U with heap := s₂.heap, slotsUsed := s₂.slotsUsed } : State).setVm s₂.vm).setTop { g with pc := g.pc + len₂, stack := v.toList ++ g.stack } := by
      refine e3.trans ?_
      rw [hf₂, State.calling_eq h.top, State.setFrames_setFrames, State.setTop_of_frames _ hr', hr]
      rfl
    have hsame : U.sameButNew ({ U with heap := s₂.heap, slotsUsed := s₂.slotsUsed } : State) L mc ms := by
      refine ⟨?_, q2, q3, q4, q5, q6⟩
      obtain ⟨t, ht, -⟩ := State.frames_cons hr
      show ({ U with heap := s₂.heap, slotsUsed := s₂.slotsUsed } : State) = { U.setFrames U.frames with heap := s₂.heap, slotsUsed := s₂.slotsUsed }
      rw [State.setFrames_self ht]
    subst hg
    refine Or.inl ⟨v, ⟨(({ U with heap := s₂.heap, slotsUsed := s₂.slotsUsed } : State).setVm s₂.vm), Ls ++ L, c0 + mc, s0 + ms⟩,
      ⟨X.admits, X.cas, X.clock, X.frames, X.room, X.hears, X.method, X.code, (X.here.setHeapUsed s₂.heap s₂.slotsUsed).setVm hW'.alike, X.tail, State.WarmedH.trans X.warmed hW', X.limits, X.bytes, X.same.trans (hsame.setVm s.vm)⟩,
      ⟨g, mk, s₂, L, rfl, rfl, hqc, rfl, hL, rfl, rfl⟩, ?_⟩
    show Steps p.tables e below _ ((({ U with heap := s₂.heap, slotsUsed := s₂.slotsUsed } : State).setVm s₂.vm).setTop { g with pc := g.pc + len₂, stack := v.toList ++ g.stack })
    rw [← hs₂]
    exact hsteps
  · obtain ⟨e2, q2, q3, q4, q5, q6⟩ := id hsm
    have e3 : s₂ = ({ (U.calling g mk a).setFrames s₂.frames with heap := s₂.heap, slotsUsed := s₂.slotsUsed } : State).setVm s₂.vm := by
      have : s₂ = ({ s₂ with vm := (U.calling g mk a).vm } : State).setVm s₂.vm := rfl
      rw [e2] at this
      exact this
    have hf₂ : s₂.frames = .throwing q :: .java g :: U.frames.tail := hend
    have hW' : U.WarmedH s₂.vm := hW₂
    have hs₂ : s₂ = ((({ U with heap := s₂.heap, slotsUsed := s₂.slotsUsed } : State).setVm s₂.vm).setTop g).pushFrame (.throwing q) := by
      refine e3.trans ?_
      rw [hf₂, State.calling_eq h.top, State.setFrames_setFrames, State.pushFrame, State.frames_setTop _ hr', State.setTop_of_frames _ hr', State.setFrames_setFrames, hr]
      rfl
    have hsame : U.sameButNew ({ U with heap := s₂.heap, slotsUsed := s₂.slotsUsed } : State) L mc ms := by
      refine ⟨?_, q2, q3, q4, q5, q6⟩
      obtain ⟨t, ht, -⟩ := State.frames_cons hr
      show ({ U with heap := s₂.heap, slotsUsed := s₂.slotsUsed } : State) = { U.setFrames U.frames with heap := s₂.heap, slotsUsed := s₂.slotsUsed }
      rw [State.setFrames_self ht]
    subst hg
    refine Or.inr ⟨q, ⟨(({ U with heap := s₂.heap, slotsUsed := s₂.slotsUsed } : State).setVm s₂.vm), Ls ++ L, c0 + mc, s0 + ms⟩,
      ⟨X.admits, X.cas, X.clock, X.frames, X.room, X.hears, X.method, X.code, (X.here.setHeapUsed s₂.heap s₂.slotsUsed).setVm hW'.alike, X.tail, State.WarmedH.trans X.warmed hW', X.limits, X.bytes, X.same.trans (hsame.setVm s.vm)⟩,
      ⟨g, mk, s₂, L, E, ce, rfl, rfl, hx, hce, hcv, hcl, rfl, hL, rfl, rfl⟩, ?_⟩
    show Steps p.tables e below _ (((({ U with heap := s₂.heap, slotsUsed := s₂.slotsUsed } : State).setVm s₂.vm).setTop g).pushFrame (.throwing q))
    rw [← hs₂]
    exact hsteps
end Payer
section Calls
variable {p : Program} {l : Launch} {e : Env} {R : Room} {s : State} {m : MethodId} {args : Array Value} {below : List Frame} {meth : Method} {c : Code} {T : State} {locs : List Loc} {cells slots : Nat}
theorem vx_callV (X : Stand p l e R s m args below meth c T locs cells slots) (hexec : p.tables.exec = Jvm.exec) {own C : String} {index : Nat} {y : MethodName} {bytes : ByteArray} {maxL : Nat} {ret : Option FieldType}
    (hown : s.vm.findClass own = some m.cls) (hlink : (Cond.methodLink own index y).before args s = true) (hinst : (Cond.instanceMethod y).before args s = true) (hsel : (Cond.selects C y y).before args s = true)
    (hcode : (Cond.code y bytes maxL ret).before args s = true) (hy : y.cls ≠ "java/lang/invoke/MethodHandle" ∧ y.cls ≠ "java/lang/invoke/VarHandle")
    {W9 : Nat} {Pre : Pt → Array Value → Prop} {Post : Pt → Array Value → Option Value → Pt → Prop} {PostX : Pt → Array Value → Addr → Pt → Prop} (hK : vx_Back l R p e below s args y 3 W9 Pre Post PostX)
    {b : Addr} {cellB : Cell} (hcell : T.heap[b]? = some cellB) (hobj : cellB.vm.isStatics = false) (hcls : s.vm.findClass C = some cellB.cls)
    {g : JFrame} (hg : g.method = m) (hsize : g.locals.size = c.maxLocals) {argsL rest : List Value} (hlen : ∀ sig, parseMethodDescriptor y.desc = some sig → argsL.length = sig.parameters.length)
    (hstack : g.stack = argsL.reverse ++ .ref b :: rest) (hW : 2 * g.monitorRoom + (rest.map fun v => v.category).sum ≤ W9) (hdg : decode c.code g.pc = .ok (.invokevirtual index, 3))
    (hpre : ∀ vm₁, s.WarmedH vm₁ → Pre ⟨T.setVm vm₁, locs, cells, slots⟩ (Value.ref b :: argsL).toArray) :
    (∃ (v : Option Value) (vm₁ : Vm) (B : Pt), s.WarmedH vm₁ ∧ Stand p l e R s m args below meth c B.U B.locs B.cells B.slots ∧ Post ⟨T.setVm vm₁, locs, cells, slots⟩ (Value.ref b :: argsL).toArray v B ∧
      ∀ target, Steps p.tables e below (B.U.setTop { g with pc := g.pc + 3, stack := v.toList ++ rest }) target → Steps p.tables e below (T.setTop g) target) ∨
    (∃ (q : Addr) (vm₁ : Vm) (B : Pt), s.WarmedH vm₁ ∧ Stand p l e R s m args below meth c B.U B.locs B.cells B.slots ∧ PostX ⟨T.setVm vm₁, locs, cells, slots⟩ (Value.ref b :: argsL).toArray q B ∧
      Steps p.tables e below (T.setTop g) ((B.U.setTop { g with stack := rest }).pushFrame (.throwing q))) := by
  obtain ⟨mk, methM, hnamed, hmethM, hstM, habM⟩ := Cond.instanceMethod_spec hinst
  obtain ⟨methM', cM, hmethM', -, -, -, -, -, -, hsigM⟩ := Cond.code_spec hnamed hcode
  cases hmethM.symm.trans hmethM'
  obtain ⟨c2, r2, m2, q1, q2, q3, q4, kP, hkP, hkPi⟩ := Cond.selects_spec hsel
  cases hcls.symm.trans q1
  cases (State.methodFound?_of_named hnamed hy).symm.trans q2
  cases hnamed.symm.trans q3
  have hselP : selectMethod e.platform s.vm cellB.cls mk = .method mk := by rw [Launch.admits_selectMethod X.admits]; exact q4
  obtain ⟨vm₁, X₁, hstep₁⟩ := X.invokevirtual hexec hown hlink hnamed hmethM hstM hkP hkPi hy (a := b) (cell := cellB) hcell
    (fun z h => by rw [h] at hobj; cases hobj) hselP hmethM habM hkP hkPi (g := g) hg (argsL := argsL) (rest := rest) (hlen _ hsigM) hstack hdg
  rcases hK m meth c ⟨T.setVm vm₁, locs, cells, slots⟩ { g with stack := rest } (.invokevirtual index) mk (Value.ref b :: argsL).toArray X₁ hg hsize hdg hW (X₁.named hnamed) (hpre vm₁ X₁.warmed) with ⟨v, B, X', hpost, hsteps⟩ | ⟨q, B, X', hpost, hsteps⟩
  · exact Or.inl ⟨v, vm₁, B, X₁.warmed, X', hpost, fun target h => hstep₁ _ fun acts => by rw [doInvoke_state]; exact hsteps.trans h⟩
  · exact Or.inr ⟨q, vm₁, B, X₁.warmed, X', hpost, hstep₁ _ fun acts => by rw [doInvoke_state]; exact hsteps⟩
theorem vx_callS (X : Stand p l e R s m args below meth c T locs cells slots) (hexec : p.tables.exec = Jvm.exec) {own : String} {index : Nat} {y : MethodName} {bytes : ByteArray} {maxL : Nat} {ret : Option FieldType}
    (hown : s.vm.findClass own = some m.cls) (hlink : (Cond.methodLink own index y).before args s = true) (hstat : (Cond.static y).before args s = true) (hinit : (Cond.initialized y.cls).before args s = true)
    (hcode : (Cond.code y bytes maxL ret).before args s = true) (hy : y.cls ≠ "java/lang/invoke/MethodHandle" ∧ y.cls ≠ "java/lang/invoke/VarHandle")
    {W9 : Nat} {Pre : Pt → Array Value → Prop} {Post : Pt → Array Value → Option Value → Pt → Prop} {PostX : Pt → Array Value → Addr → Pt → Prop} (hK : vx_Back l R p e below s args y 3 W9 Pre Post PostX)
    {g : JFrame} (hg : g.method = m) (hsize : g.locals.size = c.maxLocals) {argsL rest : List Value} (hlen : ∀ sig, parseMethodDescriptor y.desc = some sig → argsL.length = sig.parameters.length)
    (hstack : g.stack = argsL.reverse ++ rest) (hW : 2 * g.monitorRoom + (rest.map fun v => v.category).sum ≤ W9) (hdg : decode c.code g.pc = .ok (.invokestatic index, 3))
    (hpre : ∀ vm₁, s.WarmedH vm₁ → Pre ⟨T.setVm vm₁, locs, cells, slots⟩ argsL.toArray) :
    (∃ (v : Option Value) (vm₁ : Vm) (B : Pt), s.WarmedH vm₁ ∧ Stand p l e R s m args below meth c B.U B.locs B.cells B.slots ∧ Post ⟨T.setVm vm₁, locs, cells, slots⟩ argsL.toArray v B ∧
      ∀ target, Steps p.tables e below (B.U.setTop { g with pc := g.pc + 3, stack := v.toList ++ rest }) target → Steps p.tables e below (T.setTop g) target) ∨
    (∃ (q : Addr) (vm₁ : Vm) (B : Pt), s.WarmedH vm₁ ∧ Stand p l e R s m args below meth c B.U B.locs B.cells B.slots ∧ PostX ⟨T.setVm vm₁, locs, cells, slots⟩ argsL.toArray q B ∧
      Steps p.tables e below (T.setTop g) ((B.U.setTop { g with stack := rest }).pushFrame (.throwing q))) := by
  obtain ⟨mk, hnamed⟩ := Cond.code_named hcode
  obtain ⟨methM, cM, hmethM, -, -, -, -, -, -, hsigM⟩ := Cond.code_spec hnamed hcode
  have hstatic : methM.isStatic = true := Cond.static_spec hnamed hmethM hstat
  obtain ⟨kP, hkP, -⟩ := className_of_methodNamed hnamed
  have hinitP : kP.init = .initialized := Cond.initialized_spec (findClass_of_methodNamed hnamed) hkP hinit
  obtain ⟨vm₁, X₁, hstep₁⟩ := X.invokestatic hexec hown hlink hnamed hmethM hstatic hkP hinitP hy (g := g) hg (argsL := argsL) (rest := rest) (hlen _ hsigM) hstack hdg
  rcases hK m meth c ⟨T.setVm vm₁, locs, cells, slots⟩ { g with stack := rest } (.invokestatic index) mk argsL.toArray X₁ hg hsize hdg hW (X₁.named hnamed) (hpre vm₁ X₁.warmed) with ⟨v, B, X', hpost, hsteps⟩ | ⟨q, B, X', hpost, hsteps⟩
  · exact Or.inl ⟨v, vm₁, B, X₁.warmed, X', hpost, fun target h => hstep₁ _ fun acts => by rw [doInvoke_state]; exact hsteps.trans h⟩
  · exact Or.inr ⟨q, vm₁, B, X₁.warmed, X', hpost, hstep₁ _ fun acts => by rw [doInvoke_state]; exact hsteps⟩
end Calls
theorem vx_cls {s : State} {T : State} {vm₁ : Vm} {E : String} {k : ClassId} (hW : s.WarmedH vm₁) (h : (T.setVm vm₁).vm.findClass E = some k) : s.vm.findClass E = some k := by
  have h1 : vm₁.findClass E = some k := h
  rw [hW.alike.findClass] at h1
  exact h1
/-- the method's frame g, with q thrown over it -/
def vx_W (p : Program) (l : Launch) (e : Env) (R : Room) (s : State) (m : MethodId) (args : Array Value) (below : List Frame) (meth : Method) (c : Code) (H : Heap) (locs : List Loc) (cells slots : Nat) (Q : State → Prop) (g : JFrame) (q : Addr) : Prop :=
  ∀ T : State, T.heap = H → Stand p l e R s m args below meth c T locs cells slots → ∃ t, Steps p.tables e below ((T.setTop g).pushFrame (.throwing q)) t ∧ Q t
def vx_Run (p : Program) (l : Launch) (e : Env) (R : Room) (s : State) (m : MethodId) (args : Array Value) (below : List Frame) (meth : Method) (c : Code) (H : Heap) (locs : List Loc) (cells slots mc ms : Nat) (g : JFrame) (rest : List Value) (Qa : State → Outcome → State → Prop) (XC : String → State → State → Prop) (free : Addr → Prop) : Prop :=
  ∀ T : State, T.heap = H → Stand p l e R s m args below meth c T locs cells slots →
    (∃ (v : Option Value) (st₀ t T' : State) (L : List Loc), st₀.heap = H ∧ Stand p l e R s m args below meth c T' (locs ++ L) (cells + mc) (slots + ms) ∧ (∀ q ∈ L, free q.base) ∧ T'.heap = t.heap ∧ T'.vm = t.vm ∧ Qa st₀ (.returned v) t ∧
      Goes p e below T g T' { g with pc := g.pc + 3, stack := v.toList ++ rest }) ∨
    (∃ (q : Addr) (st₀ t T' : State) (L : List Loc) (E : String) (ce : Cell), st₀.heap = H ∧ Stand p l e R s m args below meth c T' (locs ++ L) (cells + mc) (slots + ms) ∧ (∀ z ∈ L, free z.base) ∧ T'.heap = t.heap ∧ T'.vm = t.vm ∧ XC E st₀ t ∧ t.heap[q]? = some ce ∧ ce.vm = .none ∧ s.vm.findClass E = some ce.cls ∧
      Steps p.tables e below (T.setTop g) ((T'.setTop { g with stack := rest }).pushFrame (.throwing q)))
def vx_X {S : Type} (px : S → Prop) (B : String → S → State → Prop) (A : Nat → Prop) : String → State → State → Prop := fun E st t => ∃ u : S, px u ∧ B E u t ∧ va_F A st t
section Runs
variable {p : Program} {l : Launch} {e : Env} {R : Room} {s : State} {m : MethodId} {args : Array Value} {below : List Frame} {meth : Method} {c : Code} {H : Heap} {locs : List Loc} {cells slots : Nat}
variable {y : MethodName} {bytes cc : ByteArray} {maxL nL mc ms n index : Nat} {ret : Option FieldType} {ws : List Cond} {rm : Room} {Pc : Array Value → State → Prop} {Qc : Array Value → State → Outcome → State → Prop} {XC : String → State → State → Prop} {free : Addr → Prop} {Ts : List Cond} {own C : String} {b : Addr} {As rest : List Value} {g : JFrame}
theorem vx_callBack (cb : CallB R s args own index y bytes maxL ret ws rm mc ms n) (hM : vx_Met l y ws rm Pc Qc XC mc ms free) (hbl : FrameBlind Pc) : vx_Back l R p e below s args y 3 8 (PreOf R mc ms Pc) (PostOf Qc mc ms free) (vx_Post XC mc ms free) := by
  obtain ⟨hrc, hrs, hfr, hlo, hws, hcw, -, hini, -⟩ := cb
  exact vx_back (bytes := bytes) (maxL := maxL) (ret := ret) hM hbl hrc hrs hfr hlo hws hcw (fun a' U hW => word_at hW (Or.inl (by first | rfl | simp [Cond.onTables, Cond.keeps, Cond.steady])) hini)
theorem vx_runV (S : CallFix p m c cc nL s args Ts own) (hM : vx_Met l y ws rm Pc Qc XC mc ms free) (cw : CallW R s args own C index y bytes maxL ret ws rm mc ms n) (hp : PreV s H C b Pc As)
    (hg : g.method = m) (hn : As.length = n) (hsize : g.locals.size = nL) (hstack : g.stack = As.reverse ++ .ref b :: rest) (hW : 2 * g.monitorRoom + (rest.map fun v => v.category).sum ≤ 8) (hdg : decode cc g.pc = .ok (.invokevirtual index, 3)) (hf : cells + mc ≤ R.cells ∧ slots + ms ≤ R.slots) :
    vx_Run p l e R s m args below meth c H locs cells slots mc ms g rest (Qc (Value.ref b :: As).toArray) XC free := by
  have hK : vx_Back l R p e below s args y 3 8 (PreOf R mc ms Pc) (PostOf Qc mc ms free) (vx_Post XC mc ms free) := vx_callBack cw.1 hM hp.1
  obtain ⟨⟨-, -, -, -, -, -, hcode, -, hy, hlen, hl⟩, hin, hse⟩ := cw
  obtain ⟨hx, hb, hml, ho, -⟩ := S
  obtain ⟨-, ⟨cellB, hcB, hoB, hclB⟩, hPc⟩ := hp
  intro T hT X
  rcases vx_callV X hx (C := C) (bytes := bytes) (maxL := maxL) (ret := ret) ho hl hin hse hcode hy hK (by rw [hT]; exact hcB) hoB hclB hg (hsize.trans hml.symm) (argsL := As) (rest := rest) (fun sig h => hn.trans (hlen sig h)) hstack hW (by rw [hb]; exact hdg)
    (fun vm₁ hW₁ => ⟨hf.1, hf.2, hPc (T.setVm vm₁) hT hW₁⟩) with ⟨v, vm₁, ⟨U', l2, c2, s2⟩, hW₁, X', ⟨g', mk, t, L, e1, e2, hq, h1, hL, h2, h3⟩, st⟩ | ⟨q, vm₁, ⟨U', l2, c2, s2⟩, hW₁, X', ⟨g', mk, t, L, E, ce, e1, e2, hq, hce, hcv, hcl, h1, hL, h2, h3⟩, st⟩
  · dsimp only [Pt.U, Pt.locs, Pt.cells, Pt.slots] at X' e1 e2 h1 h2 h3 st
    subst h1; subst h2; subst h3
    exact Or.inl ⟨v, (T.setVm vm₁).calling g' mk (Value.ref b :: As).toArray, t, U', L, hT, X', hL, e1, e2, hq, st⟩
  · dsimp only [Pt.U, Pt.locs, Pt.cells, Pt.slots] at X' e1 e2 h1 h2 h3 st hcl
    subst h1; subst h2; subst h3
    exact Or.inr ⟨q, (T.setVm vm₁).calling g' mk (Value.ref b :: As).toArray, t, U', L, E, ce, hT, X', hL, e1, e2, hq, hce, hcv, vx_cls hW₁ hcl, st⟩
theorem vx_runS (S : CallFix p m c cc nL s args Ts own) (hM : vx_Met l y ws rm Pc Qc XC mc ms free) (cw : CallB R s args own index y bytes maxL ret ws rm mc ms n ∧ (Cond.static y).before args s = true) (hp : PreS s H Pc As)
    (hg : g.method = m) (hn : As.length = n) (hsize : g.locals.size = nL) (hstack : g.stack = As.reverse ++ rest) (hW : 2 * g.monitorRoom + (rest.map fun v => v.category).sum ≤ 8) (hdg : decode cc g.pc = .ok (.invokestatic index, 3)) (hf : cells + mc ≤ R.cells ∧ slots + ms ≤ R.slots) :
    vx_Run p l e R s m args below meth c H locs cells slots mc ms g rest (Qc As.toArray) XC free := by
  have hK : vx_Back l R p e below s args y 3 8 (PreOf R mc ms Pc) (PostOf Qc mc ms free) (vx_Post XC mc ms free) := vx_callBack cw.1 hM hp.1
  obtain ⟨⟨-, -, -, -, -, -, hcode, hini, hy, hlen, hl⟩, hstt⟩ := cw
  obtain ⟨hx, hb, hml, ho, -⟩ := S
  intro T hT X
  rcases vx_callS X hx (bytes := bytes) (maxL := maxL) (ret := ret) ho hl hstt hini hcode hy hK hg (hsize.trans hml.symm) (argsL := As) (rest := rest) (fun sig h => hn.trans (hlen sig h)) hstack hW (by rw [hb]; exact hdg)
    (fun vm₁ hW₁ => ⟨hf.1, hf.2, hp.2 (T.setVm vm₁) hT hW₁⟩) with ⟨v, vm₁, ⟨U', l2, c2, s2⟩, hW₁, X', ⟨g', mk, t, L, e1, e2, hq, h1, hL, h2, h3⟩, st⟩ | ⟨q, vm₁, ⟨U', l2, c2, s2⟩, hW₁, X', ⟨g', mk, t, L, E, ce, e1, e2, hq, hce, hcv, hcl, h1, hL, h2, h3⟩, st⟩
  · dsimp only [Pt.U, Pt.locs, Pt.cells, Pt.slots] at X' e1 e2 h1 h2 h3 st
    subst h1; subst h2; subst h3
    exact Or.inl ⟨v, (T.setVm vm₁).calling g' mk As.toArray, t, U', L, hT, X', hL, e1, e2, hq, st⟩
  · dsimp only [Pt.U, Pt.locs, Pt.cells, Pt.slots] at X' e1 e2 h1 h2 h3 st hcl
    subst h1; subst h2; subst h3
    exact Or.inr ⟨q, (T.setVm vm₁).calling g' mk As.toArray, t, U', L, E, ce, hT, X', hL, e1, e2, hq, hce, hcv, vx_cls hW₁ hcl, st⟩
end Runs
section Rows
variable {p : Program} {l : Launch} {e : Env} {R : Room} {s : State} {m : MethodId} {args : Array Value} {below : List Frame} {meth : Method} {c : Code} {H : Heap} {locs : List Loc} {cells slots : Nat} {Q : State → Prop}
variable {mc ms : Nat} {free : Addr → Prop} {A0 A1 : Nat → Prop} {H0 : Heap} {a : Array Value} {pc : Nat} {ls : Array Slot} {st0 rest : List Value}
theorem vx_keep {st₀ t T' : State} {L : List Loc} (h0 : st₀.heap = H) (e1 : T'.heap = t.heap) (hS : va_S A0 H0 H locs) (hA : ∀ q, q < H.size → A1 q → A0 q) (hf : ∀ q, free q → A0 q) (hL : ∀ q ∈ L, free q.base) (hF : va_F A1 st₀ t) :
    H.size ≤ T'.heap.size ∧ (∀ q : Nat, q < H.size → ¬ A1 q → T'.heap[q]? = H[q]?) ∧ va_S A0 H0 T'.heap (locs ++ L) := by
  obtain ⟨hz, hk⟩ := hF
  rw [h0] at hz hk
  exact ⟨by rw [e1]; exact hz, fun q h1 h2 => by rw [e1]; exact hk q h1 h2,
    ⟨Nat.le_trans hS.1 (by rw [e1]; exact hz), fun q h1 h2 => by rw [e1, hk q (Nat.lt_of_lt_of_le h1 hS.1) (fun z => h2 (hA q (Nat.lt_of_lt_of_le h1 hS.1) z))]; exact hS.2.1 q h1 h2, fun q hq => by
      rcases List.mem_append.mp hq with h | h
      · exact hS.2.2 q h
      · exact hf _ (hL q h)⟩⟩
theorem vx_calli {S SX : Type} {post : Int32 → S → Prop} {px : SX → Prop} {B : S → State → Prop} {BX : String → SX → State → Prop} {AX : Nat → Prop} (hr : vx_Run p l e R s m args below meth c H locs cells slots mc ms (F0 m pc ls st0) rest (va_Qi post B A1 a) (vx_X px BX AX) free) (hS : va_S A0 H0 H locs) (hA : ∀ q, q < H.size → A1 q → A0 q) (hf : ∀ q, free q → A0 q) (hAX : ∀ q, q < H.size → AX q → A0 q)
    (kx : ∀ (E : String) (ce : Cell) (q9 : Addr) (u : SX) (t : State) (H1 : Heap) (locs1 : List Loc), t.heap = H1 → s.vm.Alike t.vm → px u → BX E u t → H.size ≤ H1.size → (∀ q : Nat, q < H.size → ¬ AX q → H1[q]? = H[q]?) → va_S A0 H0 H1 locs1 → H1[q9]? = some ce → ce.vm = .none → s.vm.findClass E = some ce.cls → vx_W p l e R s m args below meth c H1 locs1 (cells + mc) (slots + ms) Q (F0 m pc ls rest) q9)
    (kk : ∀ (r : Int32) (u : S) (t : State) (H1 : Heap) (locs1 : List Loc), t.heap = H1 → s.vm.Alike t.vm → post r u → B u t → H.size ≤ H1.size → (∀ q : Nat, q < H.size → ¬ A1 q → H1[q]? = H[q]?) → va_S A0 H0 H1 locs1 → W p l e R s m args below meth c H1 locs1 (cells + mc) (slots + ms) Q (F0 m (pc + 3) ls (.int r :: rest))) : W p l e R s m args below meth c H locs cells slots Q (F0 m pc ls st0) := by
  intro T hT X
  rcases hr T hT X with ⟨v, st₀, t, T', L, h0, X', hL, e1, e2, ⟨⟨r, u, hv, hp, hb⟩, hF⟩, st⟩ | ⟨q, st₀, t, T', L, E, ce, h0, X', hL, e1, e2, ⟨u, hp, hb, hF⟩, hce, hcv, hcl, st⟩
  · cases hv
    obtain ⟨k1, k2, k3⟩ := vx_keep h0 e1 hS hA hf hL hF
    obtain ⟨t2, a1, b1⟩ := kk r u t T'.heap (locs ++ L) e1.symm (by rw [← e2]; exact X'.warmed.alike) hp hb k1 k2 k3 T' rfl X'
    exact ⟨t2, st t2 a1, b1⟩
  · obtain ⟨k1, k2, k3⟩ := vx_keep h0 e1 hS hAX hf hL hF
    obtain ⟨t2, a1, b1⟩ := kx E ce q u t T'.heap (locs ++ L) e1.symm (by rw [← e2]; exact X'.warmed.alike) hp hb k1 k2 k3 (by rw [e1]; exact hce) hcv hcl T' rfl X'
    exact ⟨t2, st.trans a1, b1⟩
theorem vx_calll {S SX : Type} {post : Int64 → S → Prop} {px : SX → Prop} {B : S → State → Prop} {BX : String → SX → State → Prop} {AX : Nat → Prop} (hr : vx_Run p l e R s m args below meth c H locs cells slots mc ms (F0 m pc ls st0) rest (va_Ql post B A1 a) (vx_X px BX AX) free) (hS : va_S A0 H0 H locs) (hA : ∀ q, q < H.size → A1 q → A0 q) (hf : ∀ q, free q → A0 q) (hAX : ∀ q, q < H.size → AX q → A0 q)
    (kx : ∀ (E : String) (ce : Cell) (q9 : Addr) (u : SX) (t : State) (H1 : Heap) (locs1 : List Loc), t.heap = H1 → s.vm.Alike t.vm → px u → BX E u t → H.size ≤ H1.size → (∀ q : Nat, q < H.size → ¬ AX q → H1[q]? = H[q]?) → va_S A0 H0 H1 locs1 → H1[q9]? = some ce → ce.vm = .none → s.vm.findClass E = some ce.cls → vx_W p l e R s m args below meth c H1 locs1 (cells + mc) (slots + ms) Q (F0 m pc ls rest) q9)
    (kk : ∀ (r : Int64) (u : S) (t : State) (H1 : Heap) (locs1 : List Loc), t.heap = H1 → s.vm.Alike t.vm → post r u → B u t → H.size ≤ H1.size → (∀ q : Nat, q < H.size → ¬ A1 q → H1[q]? = H[q]?) → va_S A0 H0 H1 locs1 → W p l e R s m args below meth c H1 locs1 (cells + mc) (slots + ms) Q (F0 m (pc + 3) ls (.long r :: rest))) : W p l e R s m args below meth c H locs cells slots Q (F0 m pc ls st0) := by
  intro T hT X
  rcases hr T hT X with ⟨v, st₀, t, T', L, h0, X', hL, e1, e2, ⟨⟨r, u, hv, hp, hb⟩, hF⟩, st⟩ | ⟨q, st₀, t, T', L, E, ce, h0, X', hL, e1, e2, ⟨u, hp, hb, hF⟩, hce, hcv, hcl, st⟩
  · cases hv
    obtain ⟨k1, k2, k3⟩ := vx_keep h0 e1 hS hA hf hL hF
    obtain ⟨t2, a1, b1⟩ := kk r u t T'.heap (locs ++ L) e1.symm (by rw [← e2]; exact X'.warmed.alike) hp hb k1 k2 k3 T' rfl X'
    exact ⟨t2, st t2 a1, b1⟩
  · obtain ⟨k1, k2, k3⟩ := vx_keep h0 e1 hS hAX hf hL hF
    obtain ⟨t2, a1, b1⟩ := kx E ce q u t T'.heap (locs ++ L) e1.symm (by rw [← e2]; exact X'.warmed.alike) hp hb k1 k2 k3 (by rw [e1]; exact hce) hcv hcl T' rfl X'
    exact ⟨t2, st.trans a1, b1⟩
theorem vx_callf {S SX : Type} {post : UInt32 → S → Prop} {px : SX → Prop} {B : S → State → Prop} {BX : String → SX → State → Prop} {AX : Nat → Prop} (hr : vx_Run p l e R s m args below meth c H locs cells slots mc ms (F0 m pc ls st0) rest (va_Qf post B A1 a) (vx_X px BX AX) free) (hS : va_S A0 H0 H locs) (hA : ∀ q, q < H.size → A1 q → A0 q) (hf : ∀ q, free q → A0 q) (hAX : ∀ q, q < H.size → AX q → A0 q)
    (kx : ∀ (E : String) (ce : Cell) (q9 : Addr) (u : SX) (t : State) (H1 : Heap) (locs1 : List Loc), t.heap = H1 → s.vm.Alike t.vm → px u → BX E u t → H.size ≤ H1.size → (∀ q : Nat, q < H.size → ¬ AX q → H1[q]? = H[q]?) → va_S A0 H0 H1 locs1 → H1[q9]? = some ce → ce.vm = .none → s.vm.findClass E = some ce.cls → vx_W p l e R s m args below meth c H1 locs1 (cells + mc) (slots + ms) Q (F0 m pc ls rest) q9)
    (kk : ∀ (r : UInt32) (u : S) (t : State) (H1 : Heap) (locs1 : List Loc), t.heap = H1 → s.vm.Alike t.vm → post r u → B u t → H.size ≤ H1.size → (∀ q : Nat, q < H.size → ¬ A1 q → H1[q]? = H[q]?) → va_S A0 H0 H1 locs1 → W p l e R s m args below meth c H1 locs1 (cells + mc) (slots + ms) Q (F0 m (pc + 3) ls (.float r :: rest))) : W p l e R s m args below meth c H locs cells slots Q (F0 m pc ls st0) := by
  intro T hT X
  rcases hr T hT X with ⟨v, st₀, t, T', L, h0, X', hL, e1, e2, ⟨⟨r, u, hv, hp, hb⟩, hF⟩, st⟩ | ⟨q, st₀, t, T', L, E, ce, h0, X', hL, e1, e2, ⟨u, hp, hb, hF⟩, hce, hcv, hcl, st⟩
  · cases hv
    obtain ⟨k1, k2, k3⟩ := vx_keep h0 e1 hS hA hf hL hF
    obtain ⟨t2, a1, b1⟩ := kk r u t T'.heap (locs ++ L) e1.symm (by rw [← e2]; exact X'.warmed.alike) hp hb k1 k2 k3 T' rfl X'
    exact ⟨t2, st t2 a1, b1⟩
  · obtain ⟨k1, k2, k3⟩ := vx_keep h0 e1 hS hAX hf hL hF
    obtain ⟨t2, a1, b1⟩ := kx E ce q u t T'.heap (locs ++ L) e1.symm (by rw [← e2]; exact X'.warmed.alike) hp hb k1 k2 k3 (by rw [e1]; exact hce) hcv hcl T' rfl X'
    exact ⟨t2, st.trans a1, b1⟩
theorem vx_calld {S SX : Type} {post : UInt64 → S → Prop} {px : SX → Prop} {B : S → State → Prop} {BX : String → SX → State → Prop} {AX : Nat → Prop} (hr : vx_Run p l e R s m args below meth c H locs cells slots mc ms (F0 m pc ls st0) rest (va_Qd post B A1 a) (vx_X px BX AX) free) (hS : va_S A0 H0 H locs) (hA : ∀ q, q < H.size → A1 q → A0 q) (hf : ∀ q, free q → A0 q) (hAX : ∀ q, q < H.size → AX q → A0 q)
    (kx : ∀ (E : String) (ce : Cell) (q9 : Addr) (u : SX) (t : State) (H1 : Heap) (locs1 : List Loc), t.heap = H1 → s.vm.Alike t.vm → px u → BX E u t → H.size ≤ H1.size → (∀ q : Nat, q < H.size → ¬ AX q → H1[q]? = H[q]?) → va_S A0 H0 H1 locs1 → H1[q9]? = some ce → ce.vm = .none → s.vm.findClass E = some ce.cls → vx_W p l e R s m args below meth c H1 locs1 (cells + mc) (slots + ms) Q (F0 m pc ls rest) q9)
    (kk : ∀ (r : UInt64) (u : S) (t : State) (H1 : Heap) (locs1 : List Loc), t.heap = H1 → s.vm.Alike t.vm → post r u → B u t → H.size ≤ H1.size → (∀ q : Nat, q < H.size → ¬ A1 q → H1[q]? = H[q]?) → va_S A0 H0 H1 locs1 → W p l e R s m args below meth c H1 locs1 (cells + mc) (slots + ms) Q (F0 m (pc + 3) ls (.double r :: rest))) : W p l e R s m args below meth c H locs cells slots Q (F0 m pc ls st0) := by
  intro T hT X
  rcases hr T hT X with ⟨v, st₀, t, T', L, h0, X', hL, e1, e2, ⟨⟨r, u, hv, hp, hb⟩, hF⟩, st⟩ | ⟨q, st₀, t, T', L, E, ce, h0, X', hL, e1, e2, ⟨u, hp, hb, hF⟩, hce, hcv, hcl, st⟩
  · cases hv
    obtain ⟨k1, k2, k3⟩ := vx_keep h0 e1 hS hA hf hL hF
    obtain ⟨t2, a1, b1⟩ := kk r u t T'.heap (locs ++ L) e1.symm (by rw [← e2]; exact X'.warmed.alike) hp hb k1 k2 k3 T' rfl X'
    exact ⟨t2, st t2 a1, b1⟩
  · obtain ⟨k1, k2, k3⟩ := vx_keep h0 e1 hS hAX hf hL hF
    obtain ⟨t2, a1, b1⟩ := kx E ce q u t T'.heap (locs ++ L) e1.symm (by rw [← e2]; exact X'.warmed.alike) hp hb k1 k2 k3 (by rw [e1]; exact hce) hcv hcl T' rfl X'
    exact ⟨t2, st.trans a1, b1⟩
theorem vx_callv {S SX : Type} {post : S → Prop} {px : SX → Prop} {B : S → State → Prop} {BX : String → SX → State → Prop} {AX : Nat → Prop} (hr : vx_Run p l e R s m args below meth c H locs cells slots mc ms (F0 m pc ls st0) rest (va_Qv post B A1 a) (vx_X px BX AX) free) (hS : va_S A0 H0 H locs) (hA : ∀ q, q < H.size → A1 q → A0 q) (hf : ∀ q, free q → A0 q) (hAX : ∀ q, q < H.size → AX q → A0 q)
    (kx : ∀ (E : String) (ce : Cell) (q9 : Addr) (u : SX) (t : State) (H1 : Heap) (locs1 : List Loc), t.heap = H1 → s.vm.Alike t.vm → px u → BX E u t → H.size ≤ H1.size → (∀ q : Nat, q < H.size → ¬ AX q → H1[q]? = H[q]?) → va_S A0 H0 H1 locs1 → H1[q9]? = some ce → ce.vm = .none → s.vm.findClass E = some ce.cls → vx_W p l e R s m args below meth c H1 locs1 (cells + mc) (slots + ms) Q (F0 m pc ls rest) q9)
    (kk : ∀ (u : S) (t : State) (H1 : Heap) (locs1 : List Loc), t.heap = H1 → s.vm.Alike t.vm → post u → B u t → H.size ≤ H1.size → (∀ q : Nat, q < H.size → ¬ A1 q → H1[q]? = H[q]?) → va_S A0 H0 H1 locs1 → W p l e R s m args below meth c H1 locs1 (cells + mc) (slots + ms) Q (F0 m (pc + 3) ls (rest))) : W p l e R s m args below meth c H locs cells slots Q (F0 m pc ls st0) := by
  intro T hT X
  rcases hr T hT X with ⟨v, st₀, t, T', L, h0, X', hL, e1, e2, ⟨⟨u, hv, hp, hb⟩, hF⟩, st⟩ | ⟨q, st₀, t, T', L, E, ce, h0, X', hL, e1, e2, ⟨u, hp, hb, hF⟩, hce, hcv, hcl, st⟩
  · cases hv
    obtain ⟨k1, k2, k3⟩ := vx_keep h0 e1 hS hA hf hL hF
    obtain ⟨t2, a1, b1⟩ := kk u t T'.heap (locs ++ L) e1.symm (by rw [← e2]; exact X'.warmed.alike) hp hb k1 k2 k3 T' rfl X'
    exact ⟨t2, st t2 a1, b1⟩
  · obtain ⟨k1, k2, k3⟩ := vx_keep h0 e1 hS hAX hf hL hF
    obtain ⟨t2, a1, b1⟩ := kx E ce q u t T'.heap (locs ++ L) e1.symm (by rw [← e2]; exact X'.warmed.alike) hp hb k1 k2 k3 (by rw [e1]; exact hce) hcv hcl T' rfl X'
    exact ⟨t2, st.trans a1, b1⟩
/-- caught by the row x of this method's table; the rows ahead don't take it -/
theorem vx_catch {own name : String} {E : String} {ce : Cell} {q : Addr} (hown : s.vm.findClass own = some m.cls) (pre : List ExceptionTableEntry) (x : ExceptionTableEntry) (suf : List ExceptionTableEntry) (hsplit : c.exceptionTable.toList = pre ++ x :: suf)
    (hpass : ∀ z ∈ pre, covers z pc = false ∨ (z.catchType ≠ 0 ∧ ∃ nm : String, (Cond.classLink own z.catchType nm).before args s = true ∧ va_Nc E nm s)) (hx : covers x pc = true) (h0 : x.catchType ≠ 0)
    (hlink : (Cond.classLink own x.catchType name).before args s = true) (hcast : (Cond.castable E name).before args s = true) (hcell : H[q]? = some ce) (hv : ce.vm = .none) (hcl : s.vm.findClass E = some ce.cls)
    (kk : W p l e R s m args below meth c H locs cells slots Q (F0 m x.handlerPc ls [.ref q])) : vx_W p l e R s m args below meth c H locs cells slots Q (F0 m pc ls rest) q := by
  intro T hT X
  have hpl : e.platform.magicAccessors = ({} : Platform).magicAccessors := by rw [X.admits.platform]
  obtain ⟨c3, c4, hc3, hc4, hasg⟩ := Cond.castable_spec hcast
  cases Option.some.inj (hc3.symm.trans hcl)
  obtain ⟨c5, hc5, hcl5⟩ := Cond.classLink_spec hown hlink e.platform hpl
  cases Option.some.inj (hc4.symm.trans hc5)
  obtain ⟨vm', X', st⟩ := X.thenCaughtThrough q (g := F0 m pc ls rest) rfl (Steps.refl _) (by rw [hT]; exact hcell) (by rw [hv]; rfl) (by obtain ⟨k9, h9, -⟩ := Vm.findClass_spec hcl; exact ⟨k9, h9⟩) pre x suf hsplit
    (fun z hz => by
      rcases hpass z hz with h | ⟨hz0, nm, hl1, hn1⟩
      · exact Or.inl h
      · obtain ⟨c6, hc6, hcl6⟩ := Cond.classLink_spec hown hl1 e.platform hpl
        obtain ⟨a8, b8, h1, h2, h3⟩ := hn1
        cases Option.some.inj (h1.symm.trans hcl)
        cases Option.some.inj (h2.symm.trans hc6)
        exact Or.inr ⟨hz0, _, hcl6, h3⟩) hx (Or.inr ⟨h0, c4, hcl5, hasg⟩)
  obtain ⟨t, a1, b1⟩ := kk (T.setVm vm') hT X'
  exact ⟨t, st.trans a1, b1⟩
end Rows
section Ends
variable {p : Program} {l : Launch} {e : Env} {R : Room} {s : State} {m : MethodId} {args : Array Value} {below : List Frame} {meth : Method} {c : Code} {H : Heap} {locs : List Loc} {cells slots : Nat} {Q : State → Prop}
variable {mc ms : Nat} {free : Addr → Prop} {A0 A1 : Nat → Prop} {H0 : Heap} {a : Array Value} {ls : Array Slot} {st0 rest : List Value}
variable {Qc : Array Value → State → Outcome → State → Prop} {XC : String → State → State → Prop}
/-- what a body that may throw owes at its end -/
def vx_MQ (below : List Frame) (Qc : Array Value → State → Outcome → State → Prop) (XC : String → State → State → Prop) (a : Array Value) (s : State) (mc ms : Nat) (free : Addr → Prop) : State → Prop := fun t =>
  ∃ o, t.status = .running ∧ Ended t below o ∧ vx_Q Qc XC mc ms free a s o t
theorem vx_ret {g : JFrame} {mc ms : Nat} (k : W p l e R s m args below meth c H locs cells slots (MQ below Qc args s mc ms free) g) : W p l e R s m args below meth c H locs cells slots (vx_MQ below Qc XC args s mc ms free) g := by
  intro T hT X
  obtain ⟨t, a1, o, b1, b2, b3, b4⟩ := k T hT X
  exact ⟨t, a1, o, b1, b2, Or.inl ⟨b3, b4⟩⟩
/-- not caught here: it goes on to the caller -/
theorem vx_widen {g : JFrame} {q : Addr} {k n : Nat} (h1 : cells ≤ k) (h2 : slots ≤ n) (kk : vx_W p l e R s m args below meth c H locs k n Q g q) : vx_W p l e R s m args below meth c H locs cells slots Q g q := fun T hT X => kk T hT (stand_widen X h1 h2)
theorem vx_out {pc : Nat} {E : String} {ce : Cell} {q : Addr} {mc ms : Nat} (hout : ∀ x ∈ c.exceptionTable.toList, covers x pc = false) (hlocks : meth.locks = false) (hcell : H[q]? = some ce) (hv : ce.vm = .none) (hcl : s.vm.findClass E = some ce.cls)
    (hx : ∀ t : State, t.heap = H → s.vm.Alike t.vm → XC E s t) (hf : ∀ z ∈ locs, free z.base) (hc : cells ≤ mc) (hs : slots ≤ ms) :
    vx_W p l e R s m args below meth c H locs cells slots (vx_MQ below Qc XC args s mc ms free) (F0 m pc ls rest) q := by
  intro T hT X
  obtain ⟨st1, hrun, hend, hW, hsm⟩ := X.leaveThrown q (g := F0 m pc ls rest) rfl rfl rfl hout hlocks
  have hcell9 : (T.setFrames (.throwing q :: below)).heap[q]? = some ce := by
    show T.heap[q]? = some ce
    rw [hT]; exact hcell
  exact ⟨_, st1, .threw q, hrun, hend, Or.inr ⟨q, rfl, E, ce, locs, hx _ hT hW.alike, hcell9, hv, hcl, hW, hsm.mono hc hs, hf⟩⟩
theorem vx_frame {U : State} {k n : Nat} (h : s.sameButNew ({ U with vm := s.vm } : State) locs k n) : s.heap.size ≤ U.heap.size ∧ ∀ q : Nat, q < s.heap.size → (∀ z ∈ locs, z.base ≠ q) → U.heap[q]? = s.heap[q]? := by
  obtain ⟨-, h2, -, -, -, h6⟩ := h
  refine ⟨h2, fun q hq hz => ?_⟩
  obtain ⟨c9, e1, e2, e3, e4⟩ := h6 q _ (Array.getElem?_eq_getElem hq)
  have hs : c9.slots = (s.heap[q]).slots := Array.ext_getElem? fun i => e4 i fun hm => hz _ hm rfl
  have h9 : c9 = s.heap[q] := by
    rw [hs] at e2
    exact e2
  have e5 : U.heap[q]? = some c9 := e1
  rw [e5, h9, Array.getElem?_eq_getElem hq]
/-- the words of a throw but the four that speak of the heap -/
def vx_no (w : Cond) : Bool := decide (w ≠ .isRef (.static Bundle.tN "UNASSIGNED_STACK" Bundle.steD)) && decide (w ≠ .isRef (.static Bundle.tN "SUPPRESSED_SENTINEL" Bundle.listD)) && decide (w ≠ .laysStatic Bundle.tN "UNASSIGNED_STACK" Bundle.steD) && decide (w ≠ .laysStatic Bundle.tN "SUPPRESSED_SENTINEL" Bundle.listD)
def vx_at0 (own : String) (ic : Nat) (X : String) (names : List String) : List Cond := (Bundle.ownAtoms0 own ic X names).filter vx_no
def vx_atS (own : String) (ic : Nat) (X : String) (names : List String) : List Cond := (Bundle.ownAtoms own ic X names).filter vx_no
/-- a word that the tables alone decide, or a good one -/
def vx_ot (w : Cond) : Bool := w.onTables || goodWord w
theorem vx_ot_at {args a' : Array Value} {s U : State} {w : Cond} (hW : s.WarmedH U.vm) (hvm : s.vm = U.vm) (hg : vx_ot w = true) (h : w.before args s = true) : w.before a' U = true := by
  simp only [vx_ot, Bool.or_eq_true] at hg
  rcases hg with hg | hg
  · exact va_tabs hg hvm h
  · exact word_at hW (good_of_word hg) h
/-- a list's words: the good ones out of the method's own list, the others by premises of their own -/
theorem vx_hat {args : Array Value} {s : State} {L B : List Cond} (h1 : ∀ w ∈ L.filter goodWord, w.before args s = true) (h2 : ∀ w ∈ L.filter (fun w => !goodWord w), w ∈ B) (h3 : ∀ w ∈ B, w.before args s = true) : ∀ w ∈ L, w.before args s = true := by
  intro w hw
  by_cases g : goodWord w = true
  · exact h1 w (List.mem_filter.mpr ⟨hw, g⟩)
  · refine h3 w (h2 w (List.mem_filter.mpr ⟨hw, ?_⟩))
    show (!goodWord w) = true
    cases hgw : goodWord w
    · rfl
    · exact absurd hgw g
theorem vx_c {args : Array Value} {s : State} {w : Cond} {B : List Cond} (h : w.before args s = true) (t : ∀ w ∈ B, w.before args s = true) : ∀ w' ∈ w :: B, w'.before args s = true := fun w' h' => (List.mem_cons.mp h').elim (fun e => by rw [e]; exact h) (t w')
theorem vx_n {args : Array Value} {s : State} : ∀ w ∈ ([] : List Cond), w.before args s = true := fun _ h => nomatch h
theorem vx_own {args : Array Value} {s : State} {L : List Cond} (h1 : ∀ w ∈ L.filter vx_no, w.before args s = true)
    (hU : (Cond.isRef (.static Bundle.tN "UNASSIGNED_STACK" Bundle.steD)).before args s = true) (hN : (Cond.isRef (.static Bundle.tN "SUPPRESSED_SENTINEL" Bundle.listD)).before args s = true)
    (lU : (Cond.laysStatic Bundle.tN "UNASSIGNED_STACK" Bundle.steD).before args s = true) (lN : (Cond.laysStatic Bundle.tN "SUPPRESSED_SENTINEL" Bundle.listD).before args s = true) : ∀ w ∈ L, w.before args s = true := by
  intro w hw
  by_cases e1 : w = .isRef (.static Bundle.tN "UNASSIGNED_STACK" Bundle.steD)
  · rw [e1]; exact hU
  · by_cases e2 : w = .isRef (.static Bundle.tN "SUPPRESSED_SENTINEL" Bundle.listD)
    · rw [e2]; exact hN
    · by_cases e3 : w = .laysStatic Bundle.tN "UNASSIGNED_STACK" Bundle.steD
      · rw [e3]; exact lU
      · by_cases e4 : w = .laysStatic Bundle.tN "SUPPRESSED_SENTINEL" Bundle.listD
        · rw [e4]; exact lN
        · exact h1 w (List.mem_filter.mpr ⟨hw, by unfold vx_no; rw [decide_eq_true e1, decide_eq_true e2, decide_eq_true e3, decide_eq_true e4]; rfl⟩)
/-- where a static field lies, its class's statics cell in H -/
def vx_L (C n d : String) (A : Nat → Prop) (U : State) (H : Heap) : Prop := ∃ (c : ClassId) (k : Class) (i : Nat) (f : Field) (a : Nat) (cell : Cell), U.vm.findClass C = some c ∧ U.fieldFound? C n d = some (c, k, i, f) ∧ f.isStatic = true ∧ k.statics = some a ∧ H[a]? = some cell ∧ cell.vm.isStatics = true ∧ cell.cls = c ∧ f.slot < cell.slots.size ∧ k.staticTypes[f.slot]? = some f.type ∧ ¬ A a
theorem vx_L.moved {C n d : String} {A : Nat → Prop} {u U : State} {H : Heap} (hvm : u.vm.Alike U.vm) (h : vx_L C n d A u H) : vx_L C n d A U H := by
  obtain ⟨c, k, i, f, a, cell, h1, h2, h3, h4, h5, h6, h7, h8, h9, h10⟩ := h
  obtain ⟨k', hi', he⟩ := State.fieldFound?_setVm hvm h2
  exact ⟨c, k', i, f, a, cell, by rw [hvm.findClass]; exact h1, hi', h3, by rw [he]; exact h4, h5, h6, h7, h8, by rw [he]; exact h9, h10⟩
theorem vx_L.kept {C n d : String} {A : Nat → Prop} {U : State} {H H1 : Heap} (h : vx_L C n d A U H) (hq : ∀ a : Nat, a < H.size → ¬ A a → H1[a]? = H[a]?) : vx_L C n d A U H1 := by
  obtain ⟨c, k, i, f, a, cell, h1, h2, h3, h4, h5, h6, h7, h8, h9, h10⟩ := h
  exact ⟨c, k, i, f, a, cell, h1, h2, h3, h4, by rw [hq a (Array.getElem?_eq_some_iff.mp h5).1 h10]; exact h5, h6, h7, h8, h9, h10⟩
theorem vx_L.narrow {C n d : String} {A B : Nat → Prop} {U : State} {H : Heap} (h : vx_L C n d A U H) (hAB : ∀ q, B q → A q) : vx_L C n d B U H := by
  obtain ⟨c, k, i, f, a, cell, h1, h2, h3, h4, h5, h6, h7, h8, h9, h10⟩ := h
  exact ⟨c, k, i, f, a, cell, h1, h2, h3, h4, h5, h6, h7, h8, h9, fun z => h10 (hAB _ z)⟩
theorem vx_L.word {C n d : String} {A : Nat → Prop} {s : State} {args : Array Value} (h : vx_L C n d A s s.heap) : (Cond.laysStatic C n d).before args s = true := by
  obtain ⟨c, k, i, f, a, cell, h1, h2, h3, h4, h5, h6, h7, h8, h9, -⟩ := h
  show (Cond.laysStatic C n d).holds args s none s [] = true
  exact Cond.laysStatic_of h1 h2 h3 h4 h5 h6 h7 h8 h9
/-- .. and what it holds: null or some reference -/
def vx_Zq (C n d : String) (A : Nat → Prop) (U : State) (H : Heap) : Prop := va_Zq C n d A U H ∧ vx_L C n d A U H
theorem vx_Zq.moved {C n d : String} {A : Nat → Prop} {u U : State} {H : Heap} (hvm : u.vm.Alike U.vm) (h : vx_Zq C n d A u H) : vx_Zq C n d A U H := ⟨va_Zq.moved hvm h.1, vx_L.moved hvm h.2⟩
theorem vx_Zq.kept {C n d : String} {A : Nat → Prop} {U : State} {H H1 : Heap} (h : vx_Zq C n d A U H) (hq : ∀ a : Nat, a < H.size → ¬ A a → H1[a]? = H[a]?) : vx_Zq C n d A U H1 := ⟨va_Zq.kept h.1 hq, vx_L.kept h.2 hq⟩
theorem vx_Zq.narrow {C n d : String} {A B : Nat → Prop} {U : State} {H : Heap} (h : vx_Zq C n d A U H) (hAB : ∀ q, B q → A q) : vx_Zq C n d B U H := ⟨va_Zq.narrow h.1 hAB, vx_L.narrow h.2 hAB⟩
theorem vx_Zqof {args : Array Value} {s : State} {C n d : String} {A : Nat → Prop} (hl : (Cond.laysStatic C n d).before args s = true) (hini : (Cond.initialized C).before args s = true) (h : (Cond.isRef (.static C n d)).before args s = true) (hA : ∀ a : Nat, a < s.heap.size → ¬ A a) : vx_Zq C n d A s s.heap := by
  refine ⟨va_Zqof hl hini h hA, ?_⟩
  obtain ⟨c, k, i, f, a, cell, h1, h2, h3, h4, h5, h6, h7, h8, h9⟩ := Cond.laysStatic_spec hl
  exact ⟨c, k, i, f, a, cell, h1, h2, h3, h4, h5, h6, h7, h8, h9, hA a (Array.getElem?_eq_some_iff.mp h5).1⟩
theorem vx_isRef {C n d : String} {v : Value} {A : Nat → Prop} {s : State} {args : Array Value} (h : va_Z C n d v A s s.heap) (hv : v.isRef = true) : (Cond.isRef (.static C n d)).before args s = true := by
  obtain ⟨cf, kf, fi, f, a, cell, h1, h2, h3, h4, h5, h6, h7, -⟩ := h
  have he : (Term.static C n d).eval args s none [] s = some v := by
    simp [Term.eval, State.fieldNamed?, h1, h2, h4, h5, h6, h7]
  simp only [Cond.before, Cond.holds, Cond.value, he]
  cases v <;> simp_all [Value.isRef]
theorem vx_isRefq {C n d : String} {A : Nat → Prop} {s : State} {args : Array Value} (h : va_Zq C n d A s s.heap) : (Cond.isRef (.static C n d)).before args s = true := by
  rcases h with h | ⟨t, h⟩
  · exact vx_isRef h rfl
  · exact vx_isRef h rfl
/-- the same frame, seen from here: as if the method were called anew in this heap -/
theorem vx_rebase {T : State} (X : Stand p l e R s m args below meth c T locs cells slots) {R' : Room} (hf : R'.frames ≤ R.frames) (hl : R'.locals ≤ R.locals) (hc : cells + R'.cells ≤ R.cells) (hs : slots + R'.slots ≤ R.slots) :
    Stand p l e R' ((T.setVm s.vm).setFrames (.invoking m args :: below)) m args below meth c T [] 0 0 := by
  have htop : (T.setVm s.vm).topJava?.isSome := X.here.top
  have hF : ((T.setVm s.vm).setFrames (.invoking m args :: below)).frames = .invoking m args :: below := State.frames_setFrames _ (State.cur_lt_of_top htop)
  obtain ⟨g₀, hg0⟩ := Option.isSome_iff_exists.mp htop
  obtain ⟨r, hr⟩ := State.topJava?_eq_some.mp hg0
  have hl9 : e.platform.stackLimits (T.setVm s.vm).me = e.platform.stackLimits s.me := X.limits
  have hb9 : (T.setVm s.vm).me.stackBytes = s.me.stackBytes := X.bytes
  refine ⟨X.admits, X.cas, X.clock, hF, ?_, X.hears, X.method, X.code, X.here, X.tail, X.warmed, ?_, ?_, ?_⟩
  · have h := X.room
    have hU : ((T.setVm s.vm).setFrames (.invoking m args :: below)).localsInUse = s.localsInUse := by
      rw [State.localsInUse_invoking hF (meth := meth) (c := c) X.method X.code, State.localsInUse_invoking X.frames X.method X.code]
    simp only [State.hasRoom, Bool.and_eq_true, decide_eq_true_eq] at h ⊢
    obtain ⟨⟨⟨⟨h1, h2, h3, h4, h5, h6⟩, h7⟩, h8⟩, h9⟩ := h
    rw [X.frames, List.length_cons] at h2 h3
    have q1 := X.heapSize
    have q2 := X.used
    simp only [hF, hU, List.length_cons, State.stackLimits_setFrames, State.stackBytes_setFrames, hl9, hb9]
    refine ⟨⟨⟨⟨by omega, by omega, by omega, by omega, by omega, h6⟩, ?_⟩, ?_⟩, X.book⟩
    · show T.heap.size + R'.cells ≤ e.platform.maxCells
      omega
    · show T.slotsUsed + R'.slots ≤ e.platform.maxSlots
      omega
  · rw [State.stackLimits_setFrames]; rfl
  · rw [State.stackBytes_setFrames]; rfl
  · refine ⟨?_, Nat.le_refl _, Nat.le_refl _, ?_, ?_, fun a c9 h9 => ⟨c9, h9, rfl, rfl, fun _ _ => rfl⟩⟩
    · obtain ⟨t, ht, -⟩ := State.frames_cons hr
      show T.setVm s.vm = { ((T.setVm s.vm).setFrames (.invoking m args :: below)).setFrames (T.setVm s.vm).frames with heap := T.heap, slotsUsed := T.slotsUsed }
      rw [State.setFrames_setFrames, State.setFrames_self ht]
      rfl
    · show T.slotsUsed = T.slotsUsed + ((T.heap.toList.drop T.heap.size).map (·.slots.size)).sum
      rw [List.drop_eq_nil_of_le (Nat.le_of_eq Array.length_toList)]
      rfl
    · show ((T.heap.toList.drop T.heap.size).map (·.slots.size)).sum ≤ 0
      rw [List.drop_eq_nil_of_le (Nat.le_of_eq Array.length_toList)]
      exact Nat.le_refl _
/-- 'throw new E()': new; dup; invokespecial; athrow -/
theorem vx_throw0 {cc : ByteArray} {pc : Nat} (hexec : p.tables.exec = Jvm.exec) (hb : c.code = cc) (hl : l.stackTraces = false) {own cls : String} {names : List String} {ik ic mc ms : Nat} {A : Nat → Prop}
    (hown : s.vm.findClass own = some m.cls) (hcls : Bundle.fit cls = true) (hnames : ∀ n ∈ names, Bundle.fit n = true)
    (hk : (Cond.classLink own ik cls).before args s = true) (hini : (Cond.initialized cls).before args s = true) (hat : ∀ w ∈ vx_at0 own ic cls names, w.before args s = true)
    (hgood : ∀ w ∈ Cond.classLink own ik cls :: Cond.initialized cls :: vx_at0 own ic cls names, vx_ot w = true)
    (hU : vx_Zq Bundle.tN "UNASSIGNED_STACK" Bundle.steD A s s.heap) (hN : vx_Zq Bundle.tN "SUPPRESSED_SENTINEL" Bundle.listD A s s.heap) (hS : va_S A s.heap H locs) (hsize : ls.size = c.maxLocals)
    (d0 : decode cc pc = .ok (.new ik, 3)) (d3 : decode cc (pc + 3) = .ok (.dup, 1)) (d4 : decode cc (pc + 4) = .ok (.invokespecial ic, 3)) (d7 : decode cc (pc + 7) = .ok (.athrow, 1))
    (hout : ∀ x ∈ c.exceptionTable.toList, covers x (pc + 7) = false)
    (hRframes : names.length + 3 < R.frames) (hRlocals : (rest.map fun v => v.category).sum + (13 * (names.length + 1) + 42) ≤ R.locals) (hRcells : cells + 1 ≤ R.cells) (hRslots : slots + 6 ≤ R.slots) (hlocks : meth.locks = false)
    (hx : ∀ t : State, s.vm.Alike t.vm → H.size ≤ t.heap.size → (∀ q : Nat, q < H.size → t.heap[q]? = H[q]?) → XC cls s t)
    (hf : ∀ z ∈ locs, free z.base) (hc : cells + 1 ≤ mc) (hs : slots + 6 ≤ ms) :
    W p l e R s m args below meth c H locs cells slots (vx_MQ below Qc XC args s mc ms free) (F0 m pc ls rest) := by
  intro T hT X
  have htr : e.platform.stackTraces = false := (show e.platform.stackTraces = l.stackTraces by rw [X.admits.platform]).trans hl
  have Y := vx_rebase X (R' := { frames := R.frames, locals := R.locals, cells := 1, slots := 6 }) (Nat.le_refl _) (Nat.le_refl _) hRcells hRslots
  obtain ⟨s', hA⟩ : ∃ z, z = (T.setVm s.vm).setFrames (.invoking m args :: below) := ⟨_, rfl⟩
  rw [← hA] at Y
  have hvm : s'.vm = s.vm := by rw [hA]; rfl
  have hhp : s'.heap = H := by rw [hA]; exact hT
  have hW0 : s.WarmedH s'.vm := by rw [hvm]; exact State.WarmedH.refl s
  have hat' : ∀ w ∈ vx_at0 own ic cls names, w.before args s' = true := fun w hw => vx_ot_at hW0 hvm.symm (hgood w (List.mem_cons_of_mem _ (List.mem_cons_of_mem _ hw))) (hat w hw)
  have hk' : (Cond.classLink own ik cls).before args s' = true := vx_ot_at hW0 hvm.symm (hgood _ List.mem_cons_self) hk
  have hini' : (Cond.initialized cls).before args s' = true := vx_ot_at hW0 hvm.symm (hgood _ (List.mem_cons_of_mem _ List.mem_cons_self)) hini
  have hU' : vx_Zq Bundle.tN "UNASSIGNED_STACK" Bundle.steD A s' s'.heap := by rw [hhp]; exact vx_Zq.moved hW0.alike (hU.kept hS.2.1)
  have hN' : vx_Zq Bundle.tN "SUPPRESSED_SENTINEL" Bundle.listD A s' s'.heap := by rw [hhp]; exact vx_Zq.moved hW0.alike (hN.kept hS.2.1)
  have h : ∀ w ∈ Bundle.ownAtoms0 own ic cls names, w.before args s' = true := vx_own hat' (vx_isRefq hU'.1) (vx_isRefq hN'.1) hU'.2.word hN'.2.word
  have hown' : s'.vm.findClass own = some m.cls := by rw [hvm]; exact hown
  have hins : (Cond.instantiable cls 6).before args s' = true := h _ (by simp [Bundle.ownAtoms0])
  obtain ⟨vm₁, cX, kX, hfX, hkX, -, -, X₁, st1⟩ := Y.newCold hexec (own := own) (C := cls) (index := ik) (n := 6) hown' hk' hins hini'
    (g := F0 m pc ls rest) rfl (by rw [hb]; exact d0) (Nat.le_refl _) (Nat.le_refl _)
  generalize hT1 : (T.setVm vm₁).pushCell { cls := cX, slots := kX.instanceTypes.map defaultValue, vm := .none } = T1 at X₁ st1
  have hcat : (Value.ref T.heap.size).category = 1 := rfl
  have hcellA : T1.heap[T.heap.size]? = some (freshCell cX kX) := by rw [← hT1]; exact State.heap_pushCell_size _ _
  have d3' : decode c.code (pc + 3) = .ok (.dup, 1) := by rw [hb]; exact d3
  obtain ⟨U, hsteps, hrun, hend, hW, hsame, ce, hce, hO⟩ := X₁.ctorThrow0 hexec htr (own := own) (cls := cls) (names := names) (ic := ic) hown' hcls hnames h (fun x hx => nomatch hx) hfX hkX hcellA (by rw [hhp, hT]; exact Nat.le_refl _)
    (g := { method := m, pc := pc + 4, locals := ls, stack := .ref T.heap.size :: .ref T.heap.size :: rest, locked := none }) rfl hsize rfl rfl (rest := rest) rfl
    (by rw [hb]; exact d4) (by rw [hb]; exact d7) hout hRframes (by simp only [List.map_cons, List.sum_cons, hcat]; omega) hlocks
  obtain ⟨f1, f2⟩ := vx_frame hsame
  rw [hhp] at f1 f2
  have hWs : s.WarmedH U.vm := State.WarmedH.trans hW0 hW
  have hcl : s.vm.findClass cls = some ce.cls := by
    have h9 := hO.cls
    rw [hvm] at h9
    exact h9
  have hall : s.sameButNew ({ U with vm := s.vm } : State) locs mc ms := by
    subst hA
    obtain ⟨e1, e2⟩ := hsame
    rw [State.setFrames_setFrames] at e1
    have h2 : (T.setVm s.vm).sameButNew ({ U with vm := s.vm } : State) [] (0 + 1) (0 + 6) := ⟨e1, e2⟩
    have h3 := X.same.trans h2
    rw [List.append_nil] at h3
    exact h3.mono hc hs
  refine ⟨U, ?_, .threw T.heap.size, hrun, hend, Or.inr ⟨T.heap.size, rfl, cls, ce, locs, hx U hWs.alike f1 (fun q hq => f2 q hq (fun z hz => nomatch hz)), hce, hO.vm, hcl, hWs, hall, hf⟩⟩
  refine st1 _ ?_
  show Steps p.tables e below (T1.setTop { method := m, pc := pc + 3, locals := ls, stack := .ref T.heap.size :: rest, locked := none }) _
  jvm_step X₁.here [X₁.here.top, hexec, d3', Value.category]
  exact hsteps
/-- 'throw new E("text")': new; dup; ldc; invokespecial; athrow -/
theorem vx_throwS {cc : ByteArray} {pc : Nat} (hexec : p.tables.exec = Jvm.exec) (hb : c.code = cc) (hl : l.stackTraces = false) {own cls text : String} {names : List String} {ik is ic mc ms sa : Nat} {A : Nat → Prop}
    (hown : s.vm.findClass own = some m.cls) (hcls : Bundle.fit cls = true) (hnames : ∀ n ∈ names, Bundle.fit n = true)
    (hk : (Cond.classLink own ik cls).before args s = true) (hini : (Cond.initialized cls).before args s = true) (hstr : vk_R own is text sa s) (hat : ∀ w ∈ vx_atS own ic cls names, w.before args s = true)
    (hgood : ∀ w ∈ Cond.classLink own ik cls :: Cond.initialized cls :: vx_atS own ic cls names, vx_ot w = true)
    (hU : vx_Zq Bundle.tN "UNASSIGNED_STACK" Bundle.steD A s s.heap) (hN : vx_Zq Bundle.tN "SUPPRESSED_SENTINEL" Bundle.listD A s s.heap) (hS : va_S A s.heap H locs) (hsize : ls.size = c.maxLocals)
    (d0 : decode cc pc = .ok (.new ik, 3)) (d3 : decode cc (pc + 3) = .ok (.dup, 1)) (d4 : decode cc (pc + 4) = .ok (.ldc is, 2)) (d6 : decode cc (pc + 6) = .ok (.invokespecial ic, 3)) (d9 : decode cc (pc + 9) = .ok (.athrow, 1))
    (hout : ∀ x ∈ c.exceptionTable.toList, covers x (pc + 9) = false)
    (hRframes : names.length + 3 < R.frames) (hRlocals : (rest.map fun v => v.category).sum + (13 * (names.length + 1) + 43) ≤ R.locals) (hRcells : cells + 1 ≤ R.cells) (hRslots : slots + 6 ≤ R.slots) (hlocks : meth.locks = false)
    (hx : ∀ t : State, s.vm.Alike t.vm → H.size ≤ t.heap.size → (∀ q : Nat, q < H.size → t.heap[q]? = H[q]?) → XC cls s t)
    (hf : ∀ z ∈ locs, free z.base) (hc : cells + 1 ≤ mc) (hs : slots + 6 ≤ ms) :
    W p l e R s m args below meth c H locs cells slots (vx_MQ below Qc XC args s mc ms free) (F0 m pc ls rest) := by
  intro T hT X
  have htr : e.platform.stackTraces = false := (show e.platform.stackTraces = l.stackTraces by rw [X.admits.platform]).trans hl
  have Y := vx_rebase X (R' := { frames := R.frames, locals := R.locals, cells := 1, slots := 6 }) (Nat.le_refl _) (Nat.le_refl _) hRcells hRslots
  obtain ⟨s', hA⟩ : ∃ z, z = (T.setVm s.vm).setFrames (.invoking m args :: below) := ⟨_, rfl⟩
  rw [← hA] at Y
  have hvm : s'.vm = s.vm := by rw [hA]; rfl
  have hhp : s'.heap = H := by rw [hA]; exact hT
  have hW0 : s.WarmedH s'.vm := by rw [hvm]; exact State.WarmedH.refl s
  have hat' : ∀ w ∈ vx_atS own ic cls names, w.before args s' = true := fun w hw => vx_ot_at hW0 hvm.symm (hgood w (List.mem_cons_of_mem _ (List.mem_cons_of_mem _ hw))) (hat w hw)
  have hk' : (Cond.classLink own ik cls).before args s' = true := vx_ot_at hW0 hvm.symm (hgood _ List.mem_cons_self) hk
  have hini' : (Cond.initialized cls).before args s' = true := vx_ot_at hW0 hvm.symm (hgood _ (List.mem_cons_of_mem _ List.mem_cons_self)) hini
  have hU' : vx_Zq Bundle.tN "UNASSIGNED_STACK" Bundle.steD A s' s'.heap := by rw [hhp]; exact vx_Zq.moved hW0.alike (hU.kept hS.2.1)
  have hN' : vx_Zq Bundle.tN "SUPPRESSED_SENTINEL" Bundle.listD A s' s'.heap := by rw [hhp]; exact vx_Zq.moved hW0.alike (hN.kept hS.2.1)
  have h : ∀ w ∈ Bundle.ownAtoms own ic cls names, w.before args s' = true := vx_own hat' (vx_isRefq hU'.1) (vx_isRefq hN'.1) hU'.2.word hN'.2.word
  have hown' : s'.vm.findClass own = some m.cls := by rw [hvm]; exact hown
  have hins : (Cond.instantiable cls 6).before args s' = true := h _ (by simp [Bundle.ownAtoms])
  obtain ⟨vm₁, cX, kX, hfX, hkX, -, -, X₁, st1⟩ := Y.newCold hexec (own := own) (C := cls) (index := ik) (n := 6) hown' hk' hins hini'
    (g := F0 m pc ls rest) rfl (by rw [hb]; exact d0) (Nat.le_refl _) (Nat.le_refl _)
  generalize hT1 : (T.setVm vm₁).pushCell { cls := cX, slots := kX.instanceTypes.map defaultValue, vm := .none } = T1 at X₁ st1
  have hcat : (Value.ref T.heap.size).category = 1 := rfl
  have hcellA : T1.heap[T.heap.size]? = some (freshCell cX kX) := by rw [← hT1]; exact State.heap_pushCell_size _ _
  have d3' : decode c.code (pc + 3) = .ok (.dup, 1) := by rw [hb]; exact d3
  have d4' : decode c.code (pc + 4) = .ok (.ldc is, 2) := by rw [hb]; exact d4
  have hstr' : vk_R own is text sa s' := vk_R.warm hW0 hstr
  obtain ⟨U, hsteps, hrun, hend, hW, hsame, ce, hce, hO⟩ := X₁.ctorThrowS hexec htr (own := own) (cls := cls) (names := names) (ic := ic) hown' hcls hnames h (fun x hx => nomatch hx) hfX hkX hcellA (by rw [hhp, hT]; exact Nat.le_refl _) (msg := .ref sa) rfl
    (g := { method := m, pc := pc + 6, locals := ls, stack := .ref sa :: .ref T.heap.size :: .ref T.heap.size :: rest, locked := none }) rfl hsize rfl rfl (rest := rest) rfl
    (by rw [hb]; exact d6) (by rw [hb]; exact d9) hout hRframes (by simp only [List.map_cons, List.sum_cons, hcat]; omega) hlocks
  obtain ⟨f1, f2⟩ := vx_frame hsame
  rw [hhp] at f1 f2
  have hWs : s.WarmedH U.vm := State.WarmedH.trans hW0 hW
  have hcl : s.vm.findClass cls = some ce.cls := by
    have h9 := hO.cls
    rw [hvm] at h9
    exact h9
  have hall : s.sameButNew ({ U with vm := s.vm } : State) locs mc ms := by
    subst hA
    obtain ⟨e1, e2⟩ := hsame
    rw [State.setFrames_setFrames] at e1
    have h2 : (T.setVm s.vm).sameButNew ({ U with vm := s.vm } : State) [] (0 + 1) (0 + 6) := ⟨e1, e2⟩
    have h3 := X.same.trans h2
    rw [List.append_nil] at h3
    exact h3.mono hc hs
  refine ⟨U, ?_, .threw T.heap.size, hrun, hend, Or.inr ⟨T.heap.size, rfl, cls, ce, locs, hx U hWs.alike f1 (fun q hq => f2 q hq (fun z hz => nomatch hz)), hce, hO.vm, hcl, hWs, hall, hf⟩⟩
  refine st1 _ ?_
  show Steps p.tables e below (T1.setTop { method := m, pc := pc + 3, locals := ls, stack := .ref T.heap.size :: rest, locked := none }) _
  jvm_step X₁.here [X₁.here.top, hexec, d3', Value.category]
  exact X₁.ldcString hexec (own := own) (text := text) (index := is) (a := sa) hown' hstr'.1 hstr'.2
    (g := { method := m, pc := pc + 4, locals := ls, stack := .ref T.heap.size :: .ref T.heap.size :: rest, locked := none }) rfl d4' _ hsteps
/-- 'throw new E("text")', the text by a wide index -/
theorem vx_throwSW {cc : ByteArray} {pc : Nat} (hexec : p.tables.exec = Jvm.exec) (hb : c.code = cc) (hl : l.stackTraces = false) {own cls text : String} {names : List String} {ik is ic mc ms sa : Nat} {A : Nat → Prop}
    (hown : s.vm.findClass own = some m.cls) (hcls : Bundle.fit cls = true) (hnames : ∀ n ∈ names, Bundle.fit n = true)
    (hk : (Cond.classLink own ik cls).before args s = true) (hini : (Cond.initialized cls).before args s = true) (hstr : vk_R own is text sa s) (hat : ∀ w ∈ vx_atS own ic cls names, w.before args s = true)
    (hgood : ∀ w ∈ Cond.classLink own ik cls :: Cond.initialized cls :: vx_atS own ic cls names, vx_ot w = true)
    (hU : vx_Zq Bundle.tN "UNASSIGNED_STACK" Bundle.steD A s s.heap) (hN : vx_Zq Bundle.tN "SUPPRESSED_SENTINEL" Bundle.listD A s s.heap) (hS : va_S A s.heap H locs) (hsize : ls.size = c.maxLocals)
    (d0 : decode cc pc = .ok (.new ik, 3)) (d3 : decode cc (pc + 3) = .ok (.dup, 1)) (d4 : decode cc (pc + 4) = .ok (.ldc_w is, 3)) (d7 : decode cc (pc + 7) = .ok (.invokespecial ic, 3)) (d10 : decode cc (pc + 10) = .ok (.athrow, 1))
    (hout : ∀ x ∈ c.exceptionTable.toList, covers x (pc + 10) = false)
    (hRframes : names.length + 3 < R.frames) (hRlocals : (rest.map fun v => v.category).sum + (13 * (names.length + 1) + 43) ≤ R.locals) (hRcells : cells + 1 ≤ R.cells) (hRslots : slots + 6 ≤ R.slots) (hlocks : meth.locks = false)
    (hx : ∀ t : State, s.vm.Alike t.vm → H.size ≤ t.heap.size → (∀ q : Nat, q < H.size → t.heap[q]? = H[q]?) → XC cls s t)
    (hf : ∀ z ∈ locs, free z.base) (hc : cells + 1 ≤ mc) (hs : slots + 6 ≤ ms) :
    W p l e R s m args below meth c H locs cells slots (vx_MQ below Qc XC args s mc ms free) (F0 m pc ls rest) := by
  intro T hT X
  have htr : e.platform.stackTraces = false := (show e.platform.stackTraces = l.stackTraces by rw [X.admits.platform]).trans hl
  have Y := vx_rebase X (R' := { frames := R.frames, locals := R.locals, cells := 1, slots := 6 }) (Nat.le_refl _) (Nat.le_refl _) hRcells hRslots
  obtain ⟨s', hA⟩ : ∃ z, z = (T.setVm s.vm).setFrames (.invoking m args :: below) := ⟨_, rfl⟩
  rw [← hA] at Y
  have hvm : s'.vm = s.vm := by rw [hA]; rfl
  have hhp : s'.heap = H := by rw [hA]; exact hT
  have hW0 : s.WarmedH s'.vm := by rw [hvm]; exact State.WarmedH.refl s
  have hat' : ∀ w ∈ vx_atS own ic cls names, w.before args s' = true := fun w hw => vx_ot_at hW0 hvm.symm (hgood w (List.mem_cons_of_mem _ (List.mem_cons_of_mem _ hw))) (hat w hw)
  have hk' : (Cond.classLink own ik cls).before args s' = true := vx_ot_at hW0 hvm.symm (hgood _ List.mem_cons_self) hk
  have hini' : (Cond.initialized cls).before args s' = true := vx_ot_at hW0 hvm.symm (hgood _ (List.mem_cons_of_mem _ List.mem_cons_self)) hini
  have hU' : vx_Zq Bundle.tN "UNASSIGNED_STACK" Bundle.steD A s' s'.heap := by rw [hhp]; exact vx_Zq.moved hW0.alike (hU.kept hS.2.1)
  have hN' : vx_Zq Bundle.tN "SUPPRESSED_SENTINEL" Bundle.listD A s' s'.heap := by rw [hhp]; exact vx_Zq.moved hW0.alike (hN.kept hS.2.1)
  have h : ∀ w ∈ Bundle.ownAtoms own ic cls names, w.before args s' = true := vx_own hat' (vx_isRefq hU'.1) (vx_isRefq hN'.1) hU'.2.word hN'.2.word
  have hown' : s'.vm.findClass own = some m.cls := by rw [hvm]; exact hown
  have hins : (Cond.instantiable cls 6).before args s' = true := h _ (by simp [Bundle.ownAtoms])
  obtain ⟨vm₁, cX, kX, hfX, hkX, -, -, X₁, st1⟩ := Y.newCold hexec (own := own) (C := cls) (index := ik) (n := 6) hown' hk' hins hini'
    (g := F0 m pc ls rest) rfl (by rw [hb]; exact d0) (Nat.le_refl _) (Nat.le_refl _)
  generalize hT1 : (T.setVm vm₁).pushCell { cls := cX, slots := kX.instanceTypes.map defaultValue, vm := .none } = T1 at X₁ st1
  have hcat : (Value.ref T.heap.size).category = 1 := rfl
  have hcellA : T1.heap[T.heap.size]? = some (freshCell cX kX) := by rw [← hT1]; exact State.heap_pushCell_size _ _
  have d3' : decode c.code (pc + 3) = .ok (.dup, 1) := by rw [hb]; exact d3
  have d4' : decode c.code (pc + 4) = .ok (.ldc_w is, 3) := by rw [hb]; exact d4
  have hstr' : vk_R own is text sa s' := vk_R.warm hW0 hstr
  obtain ⟨U, hsteps, hrun, hend, hW, hsame, ce, hce, hO⟩ := X₁.ctorThrowS hexec htr (own := own) (cls := cls) (names := names) (ic := ic) hown' hcls hnames h (fun x hx => nomatch hx) hfX hkX hcellA (by rw [hhp, hT]; exact Nat.le_refl _) (msg := .ref sa) rfl
    (g := { method := m, pc := pc + 7, locals := ls, stack := .ref sa :: .ref T.heap.size :: .ref T.heap.size :: rest, locked := none }) rfl hsize rfl rfl (rest := rest) rfl
    (by rw [hb]; exact d7) (by rw [hb]; exact d10) hout hRframes (by simp only [List.map_cons, List.sum_cons, hcat]; omega) hlocks
  obtain ⟨f1, f2⟩ := vx_frame hsame
  rw [hhp] at f1 f2
  have hWs : s.WarmedH U.vm := State.WarmedH.trans hW0 hW
  have hcl : s.vm.findClass cls = some ce.cls := by
    have h9 := hO.cls
    rw [hvm] at h9
    exact h9
  have hall : s.sameButNew ({ U with vm := s.vm } : State) locs mc ms := by
    subst hA
    obtain ⟨e1, e2⟩ := hsame
    rw [State.setFrames_setFrames] at e1
    have h2 : (T.setVm s.vm).sameButNew ({ U with vm := s.vm } : State) [] (0 + 1) (0 + 6) := ⟨e1, e2⟩
    have h3 := X.same.trans h2
    rw [List.append_nil] at h3
    exact h3.mono hc hs
  refine ⟨U, ?_, .threw T.heap.size, hrun, hend, Or.inr ⟨T.heap.size, rfl, cls, ce, locs, hx U hWs.alike f1 (fun q hq => f2 q hq (fun z hz => nomatch hz)), hce, hO.vm, hcl, hWs, hall, hf⟩⟩
  refine st1 _ ?_
  show Steps p.tables e below (T1.setTop { method := m, pc := pc + 3, locals := ls, stack := .ref T.heap.size :: rest, locked := none }) _
  jvm_step X₁.here [X₁.here.top, hexec, d3', Value.category]
  exact X₁.ldcStringW hexec (own := own) (text := text) (index := is) (a := sa) hown' hstr'.1 hstr'.2
    (g := { method := m, pc := pc + 4, locals := ls, stack := .ref T.heap.size :: .ref T.heap.size :: rest, locked := none }) rfl d4' _ hsteps
end Ends
section Bodies
variable {l : Launch}
theorem vx_ofW {y : MethodName} {ws ws' : List Cond} {rm : Room} {Pc : Array Value → State → Prop} {Qc : Array Value → State → Outcome → State → Prop} {XC : String → State → State → Prop} {mc ms : Nat} {free : Addr → Prop} {cc : ByteArray} {maxL : Nat} {ret : Option FieldType}
    (hy : plainName y.cls = true) (hw : ws = Cond.code y cc maxL ret :: ws')
    (body : ∀ p e s m args below meth c s₁, BodyLoose p l y (headSpec ws rm) cc maxL ret e s m args below meth c s₁ → c.maxLocals = maxL → (∀ x ∈ c.exceptionTable.toList, False) → Pc args s →
      W p l e (headSpec ws rm).room s m args below meth c s.heap [] 0 0 (vx_MQ below Qc XC args s mc ms free) (entryFrame m args maxL)) : vx_Met l y ws rm Pc Qc XC mc ms free := by
  refine MetFree.of_bodyS (code := cc) (maxLocals := maxL) (ret := ret) hy ?_ ?_
  · intro args s m h hn
    obtain ⟨meth, c, h1, h2, h3, h4, h5, h6, -, -⟩ := Cond.code_spec hn (atoms_spec (ws := ws) h _ (by rw [hw]; exact List.mem_cons_self))
    exact ⟨meth, c, h1, h2, h3, h4, h5, h6⟩
  · intro p e s m args below meth c s₁ B hml hP _
    have hh0 : s₁.heap = s.heap := by rw [B.state]; rfl
    have ht : ∀ x ∈ c.exceptionTable.toList, False := by
      obtain ⟨meth9, c9, h1, h2, -, -, -, -, h7, -⟩ := Cond.code_spec B.named (atoms_spec (ws := ws) B.pre _ (by rw [hw]; exact List.mem_cons_self))
      cases Option.some.inj (h1.symm.trans B.method)
      cases Option.some.inj (h2.symm.trans (Stand.of_body B).code)
      intro x hx
      rw [Array.isEmpty_iff.mp h7] at hx
      cases hx
    obtain ⟨t, a1, o, b1, b2, b3⟩ := body p e s m args below meth c s₁ B hml ht hP s₁ hh0 (Stand.of_body B)
    exact ⟨t, o, a1, b1, b2, b3⟩
/-- the table of a body with handlers -/
theorem vx_table {p : Program} {x y : MethodName} {S : Spec} {cc bytes : ByteArray} {maxL maxL' : Nat} {ret ret' : Option FieldType} {e : Env} {s s₁ : State} {m : MethodId} {args : Array Value} {below : List Frame} {meth : Method} {c : Code} {hh : List (Nat × Nat × Nat × Nat)}
    (B : BodyLoose p l y S cc maxL ret e s m args below meth c s₁) (h : (Cond.codeWith y bytes maxL' ret' hh).before args s = true) : c.exceptionTable.toList = tableOf hh := by
  obtain ⟨m9, meth9, c9, hn9, h1, h2, -, -, h6, -⟩ := Cond.codeWith_spec h
  cases Option.some.inj (hn9.symm.trans B.named)
  cases Option.some.inj (h1.symm.trans B.method)
  cases Option.some.inj (h2.symm.trans (Stand.of_body B).code)
  rw [← h6, table_eq]
end Bodies
end VXA
/-! ===== END ===== -/
/-! ===== BEGIN a static call of a method with an exception table ===== -/
section VXS
variable {p : Program} {l : Launch} {e : Env} {R : Room} {s : State} {m : MethodId} {args : Array Value} {below : List Frame} {meth : Method} {c : Code} {T : State} {H : Heap} {locs : List Loc} {cells slots : Nat}
abbrev vx_CSW (R : Room) (s : State) (args : Array Value) (own : String) (index : Nat) (y : MethodName) (bytes : ByteArray) (maxL : Nat) (ret : Option FieldType) (hh : List (Nat × Nat × Nat × Nat)) (ws : List Cond) (rm : Room) (mc ms n : Nat) : Prop :=
  (rm.cells = mc ∧ rm.slots = ms ∧ rm.frames + 1 ≤ R.frames ∧ 8 + (maxL + 11) + rm.locals ≤ R.locals ∧ (∀ w ∈ ws, ∀ (a' : Array Value) (U : State), s.WarmedH U.vm → w.before a' U = true) ∧ Cond.codeWith y bytes maxL ret hh ∈ ws) ∧
  (Cond.codeWith y bytes maxL ret hh).before args s = true ∧ (Cond.initialized y.cls).before args s = true ∧ (y.cls ≠ "java/lang/invoke/MethodHandle" ∧ y.cls ≠ "java/lang/invoke/VarHandle") ∧
  (∀ sig, parseMethodDescriptor y.desc = some sig → n = sig.parameters.length) ∧ (Cond.methodLink own index y).before args s = true ∧ (Cond.static y).before args s = true
theorem vx_cwSW {own : String} {index maxL mc ms : Nat} {y : MethodName} {bytes : ByteArray} {ret : Option FieldType} {hh : List (Nat × Nat × Nat × Nat)} {Ts ws ws' : List Cond} {rm : Room} (n : Nat) (ht : ∀ w ∈ Ts, w.before args s = true) (hT : GoodIn Ts (va_wsS own index y ws)) (hw : ws = Cond.codeWith y bytes maxL ret hh :: ws') (hrc : rm.cells = mc) (hrs : rm.slots = ms)
    (hd : y.cls ≠ "java/lang/invoke/MethodHandle" ∧ y.cls ≠ "java/lang/invoke/VarHandle" ∧ (parseMethodDescriptor y.desc).map (fun d => d.parameters.length) = some n) (hR : rm.frames + 1 ≤ R.frames ∧ 8 + (maxL + 11) + rm.locals ≤ R.locals) :
    vx_CSW R s args own index y bytes maxL ret hh ws rm mc ms n := by
  have ok : ∀ w ∈ va_wsS own index y ws, w.before args s = true := fun w h => ht w (hT w h).1
  have hG : GoodIn Ts ws := fun w h => hT w (by unfold va_wsS; exact List.mem_append_right _ h)
  have hc : Cond.codeWith y bytes maxL ret hh ∈ ws := by rw [hw]; exact List.mem_cons_self
  refine ⟨⟨hrc, hrs, hR.1, hR.2, pay_in ht hG, hc⟩, ht _ (hG _ hc).1, ok _ (by simp [va_wsS]), ⟨hd.1, hd.2.1⟩, fun sig h => ?_, ok _ (by simp [va_wsS]), ok _ (by simp [va_wsS])⟩
  have h2 := hd.2.2
  rw [h] at h2
  exact (Option.some.inj h2).symm
theorem vx_callSW (X : Stand p l e R s m args below meth c T locs cells slots) (hexec : p.tables.exec = Jvm.exec) {own : String} {index : Nat} {y : MethodName} {bytes : ByteArray} {maxL : Nat} {ret : Option FieldType} {hh : List (Nat × Nat × Nat × Nat)}
    (hown : s.vm.findClass own = some m.cls) (hlink : (Cond.methodLink own index y).before args s = true) (hstat : (Cond.static y).before args s = true) (hinit : (Cond.initialized y.cls).before args s = true)
    (hcode : (Cond.codeWith y bytes maxL ret hh).before args s = true) (hy : y.cls ≠ "java/lang/invoke/MethodHandle" ∧ y.cls ≠ "java/lang/invoke/VarHandle")
    {W9 : Nat} {Pre : Pt → Array Value → Prop} {Post : Pt → Array Value → Option Value → Pt → Prop} (hK : Back l R p e below s args y 3 W9 Pre Post)
    {g : JFrame} (hg : g.method = m) (hsize : g.locals.size = c.maxLocals) {argsL rest : List Value} (hlen : ∀ sig, parseMethodDescriptor y.desc = some sig → argsL.length = sig.parameters.length)
    (hstack : g.stack = argsL.reverse ++ rest) (hW : 2 * g.monitorRoom + (rest.map fun v => v.category).sum ≤ W9) (hdg : decode c.code g.pc = .ok (.invokestatic index, 3))
    (hpre : ∀ vm₁, s.WarmedH vm₁ → Pre ⟨T.setVm vm₁, locs, cells, slots⟩ argsL.toArray) :
    ∃ (v : Option Value) (vm₁ : Vm) (B : Pt), s.WarmedH vm₁ ∧ Stand p l e R s m args below meth c B.U B.locs B.cells B.slots ∧ Post ⟨T.setVm vm₁, locs, cells, slots⟩ argsL.toArray v B ∧
      ∀ target, Steps p.tables e below (B.U.setTop { g with pc := g.pc + 3, stack := v.toList ++ rest }) target → Steps p.tables e below (T.setTop g) target := by
  obtain ⟨mk, methM, cM, hnamed, hmethM, -, -, -, -, -, -, hsigM⟩ := Cond.codeWith_spec hcode
  have hstatic : methM.isStatic = true := Cond.static_spec hnamed hmethM hstat
  obtain ⟨kP, hkP, -⟩ := className_of_methodNamed hnamed
  have hinitP : kP.init = .initialized := Cond.initialized_spec (findClass_of_methodNamed hnamed) hkP hinit
  obtain ⟨vm₁, X₁, hstep₁⟩ := X.invokestatic hexec hown hlink hnamed hmethM hstatic hkP hinitP hy (g := g) hg (argsL := argsL) (rest := rest) (hlen _ hsigM) hstack hdg
  obtain ⟨v, B, X', hpost, hsteps⟩ := hK m meth c ⟨T.setVm vm₁, locs, cells, slots⟩ { g with stack := rest } (.invokestatic index) mk argsL.toArray X₁ hg hsize hdg hW (X₁.named hnamed) (hpre vm₁ X₁.warmed)
  exact ⟨v, vm₁, B, X₁.warmed, X', hpost, fun target h => hstep₁ _ fun acts => by rw [doInvoke_state]; exact hsteps.trans h⟩
theorem vx_runSW {y : MethodName} {bytes cc : ByteArray} {maxL nL mc ms n index : Nat} {ret : Option FieldType} {hh : List (Nat × Nat × Nat × Nat)} {ws : List Cond} {rm : Room} {Pc : Array Value → State → Prop} {Qc : Array Value → State → Outcome → State → Prop} {free : Addr → Prop} {Ts : List Cond} {own : String} {As rest : List Value} {g : JFrame}
    (S : CallFix p m c cc nL s args Ts own) (hM : Met l y ws rm Pc Qc mc ms free) (cw : vx_CSW R s args own index y bytes maxL ret hh ws rm mc ms n) (hp : PreS s H Pc As)
    (hg : g.method = m) (hn : As.length = n) (hsize : g.locals.size = nL) (hstack : g.stack = As.reverse ++ rest) (hW : 2 * g.monitorRoom + (rest.map fun v => v.category).sum ≤ 8) (hdg : decode cc g.pc = .ok (.invokestatic index, 3)) (hf : cells + mc ≤ R.cells ∧ slots + ms ≤ R.slots) :
    va_Run p l e R s m args below meth c H locs cells slots mc ms g rest (Qc As.toArray) (free) := by
  obtain ⟨⟨hrc, hrs, hfr, hlo, hws, hcw⟩, hcode, hini, hy, hlen, hl, hstt⟩ := cw
  have hK : Back l R p e below s args y 3 8 (PreOf R mc ms Pc) (PostOf Qc mc ms free) := va_backW (hh := hh) (bytes := bytes) (maxL := maxL) (ret := ret) hM hp.1 hrc hrs hfr hlo hws hcw (fun a' U hW => word_at hW (Or.inl (by first | rfl | simp [Cond.onTables, Cond.keeps, Cond.steady])) hini)
  obtain ⟨hx, hb, hml, ho, -⟩ := S
  intro T hT X
  obtain ⟨v, vm₁, ⟨U', l2, c2, s2⟩, hW₁, X', ⟨g', mk, t, L, e1, e2, hq, h1, hL, h2, h3⟩, st⟩ := vx_callSW X hx (hh := hh) (bytes := bytes) (maxL := maxL) (ret := ret) ho hl hstt hini hcode hy hK hg (hsize.trans hml.symm) (argsL := As) (rest := rest) (fun sig h => hn.trans (hlen sig h)) hstack hW (by rw [hb]; exact hdg)
    (fun vm₁ hW₁ => ⟨hf.1, hf.2, hp.2 (T.setVm vm₁) hT hW₁⟩)
  dsimp only [Pt.U, Pt.locs, Pt.cells, Pt.slots] at X' e1 e2 h1 h2 h3 st
  subst h1; subst h2; subst h3
  exact ⟨v, (T.setVm vm₁).calling g' mk As.toArray, t, U', L, hT, X', hL, e1, e2, hq, st⟩
/-- not caught here, past rows that name other classes: it goes on to the caller -/
theorem vx_outP {p : Program} {l : Launch} {e : Env} {R : Room} {s : State} {m : MethodId} {args : Array Value} {below : List Frame} {meth : Method} {c : Code} {H : Heap} {locs : List Loc} {cells slots : Nat} {free : Addr → Prop} {ls : Array Slot} {rest : List Value} {Qc : Array Value → State → Outcome → State → Prop} {XC : String → State → State → Prop}
    {pc : Nat} {own E : String} {ce : Cell} {q : Addr} {mc ms : Nat} (hown : s.vm.findClass own = some m.cls) (hlocks : meth.locks = false)
    (hpass : ∀ z ∈ c.exceptionTable.toList, covers z pc = false ∨ (z.catchType ≠ 0 ∧ ∃ nm : String, (Cond.classLink own z.catchType nm).before args s = true ∧ va_Nc E nm s)) (hcell : H[q]? = some ce) (hv : ce.vm = .none) (hcl : s.vm.findClass E = some ce.cls)
    (hx : ∀ t : State, t.heap = H → s.vm.Alike t.vm → XC E s t) (hf : ∀ z ∈ locs, free z.base) (hc : cells ≤ mc) (hs : slots ≤ ms) :
    vx_W p l e R s m args below meth c H locs cells slots (vx_MQ below Qc XC args s mc ms free) (F0 m pc ls rest) q := by
  intro T hT X
  have hpl : e.platform.magicAccessors = ({} : Platform).magicAccessors := by rw [X.admits.platform]
  obtain ⟨vm', hW', X', st⟩ := X.outThrough hlocks q (g := F0 m pc ls rest) rfl rfl rfl (cell := ce) (by rw [hT]; exact hcell) (by rw [hv]; rfl)
    (by obtain ⟨k9, h9, -⟩ := Vm.findClass_spec hcl; exact ⟨k9, h9⟩) (fun z hz => by
      rcases hpass z hz with h | ⟨hz0, nm, hl1, hn1⟩
      · exact Or.inl h
      · obtain ⟨c6, hc6, hcl6⟩ := Cond.classLink_spec hown hl1 e.platform hpl
        obtain ⟨a8, b8, h1, h2, h3⟩ := hn1
        cases Option.some.inj (h1.symm.trans hcl)
        cases Option.some.inj (h2.symm.trans hc6)
        exact Or.inr ⟨hz0, _, hcl6, h3⟩)
  obtain ⟨g₀, hfr⟩ := X'.frames_eq
  have hcell9 : ((T.setVm vm').setFrames (.throwing q :: below)).heap[q]? = some ce := by
    show T.heap[q]? = some ce
    rw [hT]; exact hcell
  have hend : Ended ((T.setVm vm').setFrames (.throwing q :: below)) below (.threw q) := State.frames_setFrames _ (State.cur_lt_of_frames hfr)
  refine ⟨(T.setVm vm').setFrames (.throwing q :: below), ?_, .threw q, X'.here.running, hend, Or.inr ⟨q, rfl, E, ce, locs, hx _ hT (X'.ends _).1.alike, hcell9, hv, hcl, (X'.ends _).1, (X'.ends _).2.mono hc hs, hf⟩⟩
  rw [X.pushThrowing_eq]
  exact st
/-- a thing of a world lies in the heap -/
theorem vx_lt {D : va_G} {cl : List vw_C} {ws : va_W} {H1 : Heap} (h : va_P D cl ws H1) {k : Nat} {q : Nat × va_E} (hk : ws[k]? = some q) : q.1 < H1.size := (h k q hk).lt
end VXS
/-! ===== END ===== -/
/-! ===== BEGIN methods with a table of their own: called by a name, returning or throwing ===== -/
section VXH
/-! vx_backW, vx_callVX, vx_callSX, vx_callVW, vx_runVW, vx_runVX, vx_runSX, vx_ofWH follow the same proofs as their sisters above (Free/Laws.lean, Shelf42/LK1.lean); vx_outP calls Shelf42/NT130.lean (outThrough). -/
section
variable {l : Launch} {R : Room} {p : Program} {e : Env} {below : List Frame} {s : State} {sargs : Array Value} {y : MethodName} {len W9 : Nat}
theorem vx_backW {ws : List Cond} {rm : Room} {Pc : Array Value → State → Prop} {Qc : Array Value → State → Outcome → State → Prop} {XC : String → State → State → Prop} {mc ms : Nat} {free : Addr → Prop} {bytes : ByteArray} {maxL : Nat} {ret : Option FieldType} {hh : List (Nat × Nat × Nat × Nat)}
    (hM : vx_Met l y ws rm Pc Qc XC mc ms free) (hblind : FrameBlind Pc) (hrc : rm.cells = mc) (hrs : rm.slots = ms)
    (hframes : rm.frames + 1 ≤ R.frames) (hlocals : W9 + (maxL + 11) + rm.locals ≤ R.locals)
    (hws : ∀ w ∈ ws, ∀ a' U, s.WarmedH U.vm → w.before a' U = true) (hcode : Cond.codeWith y bytes maxL ret hh ∈ ws) (hinit : ∀ a' U, s.WarmedH U.vm → (Cond.initialized y.cls).before a' U = true) :
    vx_Back l R p e below s sargs y len W9 (PreOf R mc ms Pc) (PostOf Qc mc ms free) (vx_Post XC mc ms free) := by
  intro m meth c A g ig mk a X hg hsize hdg hW hn hp
  have h1 : (headSpec ws rm).pre.before a A.U = true := atoms_intro fun w hw => hws w hw _ _ X.warmed
  have h2 : (Cond.codeWith y bytes maxL ret hh).before a A.U = true := hws _ hcode _ _ X.warmed
  have h3 : (Cond.initialized y.cls).before a A.U = true := hinit _ _ X.warmed
  have h4 : A.cells + (headSpec ws rm).room.cells ≤ R.cells := by rw [show (headSpec ws rm).room.cells = mc from hrc]; exact hp.1
  have h5 : A.slots + (headSpec ws rm).room.slots ≤ R.slots := by rw [show (headSpec ws rm).room.slots = ms from hrs]; exact hp.2.1
  have hPc : Pc a (A.U.calling g mk a) := hblind _ _ _ _ hp.2.2
  obtain ⟨U, Ls, c0, s0⟩ := A
  dsimp only [Pt.U, Pt.locs, Pt.cells, Pt.slots] at h1 h2 h3 h4 h5 X hn hPc ⊢
  obtain ⟨m9, methY, cY, hn9, hmY, hcY, -, hlY, -⟩ := Cond.codeWith_spec h2
  cases Option.some.inj (hn9.symm.trans hn)
  obtain ⟨kY, hkY, -⟩ := className_of_methodNamed hn
  have hinitY : kY.init = .initialized := Cond.initialized_spec (findClass_of_methodNamed hn) hkY h3
  have h : At U g.method c below := by rw [hg]; exact X.here
  have hlocals9 : W9 + (maxL + 11) + (headSpec ws rm).room.locals ≤ R.locals := hlocals
  have happ : (headSpec ws rm).appliesLoose y e.platform (U.calling g mk a) = true :=
    Spec.appliesLoose_calling (g := g) h hdg hn hkY hinitY
      (X.room_calling (g := g) (R' := (headSpec ws rm).room) hsize hmY hcY hframes (by rw [hlY]; omega) h4 h5) h1
  obtain ⟨mid, hmid⟩ := h.above
  have hfr : (U.setTop g).frames = (.java g :: mid) ++ below := by rw [State.frames_setTop' g h.top, hmid]; rfl
  obtain ⟨o, s₂, hsteps, -, hend, hq⟩ := Steps.callFree hM p X.admits X.cas X.clock (acts := []) hfr happ hPc trivial
  have hq' : vx_Q Qc XC mc ms free a (U.calling g mk a) o s₂ := hq
  rw [State.frames_setTop' g h.top] at hend
  obtain ⟨g₀, hg0⟩ := Option.isSome_iff_exists.mp h.top
  obtain ⟨r, hr⟩ := State.topJava?_eq_some.mp hg0
  have hr' : (({ U with heap := s₂.heap, slotsUsed := s₂.slotsUsed } : State).setVm s₂.vm).frames = .java g₀ :: r := hr
  rcases hq' with ⟨hqc, L, hfe, hL⟩ | ⟨q, rfl, E, ce, L, hx, hce, hcv, hcl, hW₂, hsm, hL⟩
  · obtain ⟨⟨v, rfl⟩, hW₂, e2, q2, q3, q4, q5, q6⟩ := id hfe
    have e3 : s₂ = ({ (U.calling g mk a).setFrames s₂.frames with heap := s₂.heap, slotsUsed := s₂.slotsUsed } : State).setVm s₂.vm := by
      have : s₂ = ({ s₂ with vm := (U.calling g mk a).vm } : State).setVm s₂.vm := rfl
      rw [e2] at this
      exact this
    obtain ⟨c₂, i₂, len₂, hc₂, hd₂, hf₂⟩ := hend
    have hW' : U.WarmedH s₂.vm := hW₂
    have hcc : c₂ = c := by
      have h1 : s₂.code? g.method = U.code? g.method := by
        rw [State.code?_eq, State.code?_eq, hW'.alike.method?]
      exact Option.some.inj (hc₂.symm.trans (h1.trans h.code))
    subst hcc
    have hlen : len₂ = len := by rw [hdg] at hd₂; cases hd₂; rfl
    subst hlen
    have hs₂ : s₂ = (({ U with heap := s₂.heap, slotsUsed := s₂.slotsUsed } : State).setVm s₂.vm).setTop { g with pc := g.pc + len₂, stack := v.toList ++ g.stack } := by
      refine e3.trans ?_
      rw [hf₂, State.calling_eq h.top, State.setFrames_setFrames, State.setTop_of_frames _ hr', hr]
      rfl
    have hsame : U.sameButNew ({ U with heap := s₂.heap, slotsUsed := s₂.slotsUsed } : State) L mc ms := by
      refine ⟨?_, q2, q3, q4, q5, q6⟩
      obtain ⟨t, ht, -⟩ := State.frames_cons hr
      show ({ U with heap := s₂.heap, slotsUsed := s₂.slotsUsed } : State) = { U.setFrames U.frames with heap := s₂.heap, slotsUsed := s₂.slotsUsed }
      rw [State.setFrames_self ht]
    subst hg
    refine Or.inl ⟨v, ⟨(({ U with heap := s₂.heap, slotsUsed := s₂.slotsUsed } : State).setVm s₂.vm), Ls ++ L, c0 + mc, s0 + ms⟩,
      ⟨X.admits, X.cas, X.clock, X.frames, X.room, X.hears, X.method, X.code, (X.here.setHeapUsed s₂.heap s₂.slotsUsed).setVm hW'.alike, X.tail, State.WarmedH.trans X.warmed hW', X.limits, X.bytes, X.same.trans (hsame.setVm s.vm)⟩,
      ⟨g, mk, s₂, L, rfl, rfl, hqc, rfl, hL, rfl, rfl⟩, ?_⟩
    show Steps p.tables e below _ ((({ U with heap := s₂.heap, slotsUsed := s₂.slotsUsed } : State).setVm s₂.vm).setTop { g with pc := g.pc + len₂, stack := v.toList ++ g.stack })
    rw [← hs₂]
    exact hsteps
  · obtain ⟨e2, q2, q3, q4, q5, q6⟩ := id hsm
    have e3 : s₂ = ({ (U.calling g mk a).setFrames s₂.frames with heap := s₂.heap, slotsUsed := s₂.slotsUsed } : State).setVm s₂.vm := by
      have : s₂ = ({ s₂ with vm := (U.calling g mk a).vm } : State).setVm s₂.vm := rfl
      rw [e2] at this
      exact this
    have hf₂ : s₂.frames = .throwing q :: .java g :: U.frames.tail := hend
    have hW' : U.WarmedH s₂.vm := hW₂
    have hs₂ : s₂ = ((({ U with heap := s₂.heap, slotsUsed := s₂.slotsUsed } : State).setVm s₂.vm).setTop g).pushFrame (.throwing q) := by
      refine e3.trans ?_
      rw [hf₂, State.calling_eq h.top, State.setFrames_setFrames, State.pushFrame, State.frames_setTop _ hr', State.setTop_of_frames _ hr', State.setFrames_setFrames, hr]
      rfl
    have hsame : U.sameButNew ({ U with heap := s₂.heap, slotsUsed := s₂.slotsUsed } : State) L mc ms := by
      refine ⟨?_, q2, q3, q4, q5, q6⟩
      obtain ⟨t, ht, -⟩ := State.frames_cons hr
      show ({ U with heap := s₂.heap, slotsUsed := s₂.slotsUsed } : State) = { U.setFrames U.frames with heap := s₂.heap, slotsUsed := s₂.slotsUsed }
      rw [State.setFrames_self ht]
    subst hg
    refine Or.inr ⟨q, ⟨(({ U with heap := s₂.heap, slotsUsed := s₂.slotsUsed } : State).setVm s₂.vm), Ls ++ L, c0 + mc, s0 + ms⟩,
      ⟨X.admits, X.cas, X.clock, X.frames, X.room, X.hears, X.method, X.code, (X.here.setHeapUsed s₂.heap s₂.slotsUsed).setVm hW'.alike, X.tail, State.WarmedH.trans X.warmed hW', X.limits, X.bytes, X.same.trans (hsame.setVm s.vm)⟩,
      ⟨g, mk, s₂, L, E, ce, rfl, rfl, hx, hce, hcv, hcl, rfl, hL, rfl, rfl⟩, ?_⟩
    show Steps p.tables e below _ (((({ U with heap := s₂.heap, slotsUsed := s₂.slotsUsed } : State).setVm s₂.vm).setTop g).pushFrame (.throwing q))
    rw [← hs₂]
    exact hsteps
end
variable {p : Program} {l : Launch} {e : Env} {R : Room} {s : State} {m : MethodId} {args : Array Value} {below : List Frame} {meth : Method} {c : Code} {T : State} {H : Heap} {locs : List Loc} {cells slots : Nat}
theorem vx_callVX (X : Stand p l e R s m args below meth c T locs cells slots) (hexec : p.tables.exec = Jvm.exec) {own C : String} {index : Nat} {y : MethodName} {bytes : ByteArray} {maxL : Nat} {ret : Option FieldType} {hh : List (Nat × Nat × Nat × Nat)}
    (hown : s.vm.findClass own = some m.cls) (hlink : (Cond.methodLink own index y).before args s = true) (hinst : (Cond.instanceMethod y).before args s = true) (hsel : (Cond.selects C y y).before args s = true)
    (hcode : (Cond.codeWith y bytes maxL ret hh).before args s = true) (hy : y.cls ≠ "java/lang/invoke/MethodHandle" ∧ y.cls ≠ "java/lang/invoke/VarHandle")
    {W9 : Nat} {Pre : Pt → Array Value → Prop} {Post : Pt → Array Value → Option Value → Pt → Prop} {PostX : Pt → Array Value → Addr → Pt → Prop} (hK : vx_Back l R p e below s args y 3 W9 Pre Post PostX)
    {b : Addr} {cellB : Cell} (hcell : T.heap[b]? = some cellB) (hobj : cellB.vm.isStatics = false) (hcls : s.vm.findClass C = some cellB.cls)
    {g : JFrame} (hg : g.method = m) (hsize : g.locals.size = c.maxLocals) {argsL rest : List Value} (hlen : ∀ sig, parseMethodDescriptor y.desc = some sig → argsL.length = sig.parameters.length)
    (hstack : g.stack = argsL.reverse ++ .ref b :: rest) (hW : 2 * g.monitorRoom + (rest.map fun v => v.category).sum ≤ W9) (hdg : decode c.code g.pc = .ok (.invokevirtual index, 3))
    (hpre : ∀ vm₁, s.WarmedH vm₁ → Pre ⟨T.setVm vm₁, locs, cells, slots⟩ (Value.ref b :: argsL).toArray) :
    (∃ (v : Option Value) (vm₁ : Vm) (B : Pt), s.WarmedH vm₁ ∧ Stand p l e R s m args below meth c B.U B.locs B.cells B.slots ∧ Post ⟨T.setVm vm₁, locs, cells, slots⟩ (Value.ref b :: argsL).toArray v B ∧
      ∀ target, Steps p.tables e below (B.U.setTop { g with pc := g.pc + 3, stack := v.toList ++ rest }) target → Steps p.tables e below (T.setTop g) target) ∨
    (∃ (q : Addr) (vm₁ : Vm) (B : Pt), s.WarmedH vm₁ ∧ Stand p l e R s m args below meth c B.U B.locs B.cells B.slots ∧ PostX ⟨T.setVm vm₁, locs, cells, slots⟩ (Value.ref b :: argsL).toArray q B ∧
      Steps p.tables e below (T.setTop g) ((B.U.setTop { g with stack := rest }).pushFrame (.throwing q))) := by
  obtain ⟨mk, methM, hnamed, hmethM, hstM, habM⟩ := Cond.instanceMethod_spec hinst
  obtain ⟨m8, methM', cM, hn8, hmethM', -, -, -, -, -, -, hsigM⟩ := Cond.codeWith_spec hcode
  cases Option.some.inj (hn8.symm.trans hnamed)
  cases hmethM.symm.trans hmethM'
  obtain ⟨c2, r2, m2, q1, q2, q3, q4, kP, hkP, hkPi⟩ := Cond.selects_spec hsel
  cases hcls.symm.trans q1
  cases (State.methodFound?_of_named hnamed hy).symm.trans q2
  cases hnamed.symm.trans q3
  have hselP : selectMethod e.platform s.vm cellB.cls mk = .method mk := by rw [Launch.admits_selectMethod X.admits]; exact q4
  obtain ⟨vm₁, X₁, hstep₁⟩ := X.invokevirtual hexec hown hlink hnamed hmethM hstM hkP hkPi hy (a := b) (cell := cellB) hcell
    (fun z h => by rw [h] at hobj; cases hobj) hselP hmethM habM hkP hkPi (g := g) hg (argsL := argsL) (rest := rest) (hlen _ hsigM) hstack hdg
  rcases hK m meth c ⟨T.setVm vm₁, locs, cells, slots⟩ { g with stack := rest } (.invokevirtual index) mk (Value.ref b :: argsL).toArray X₁ hg hsize hdg hW (X₁.named hnamed) (hpre vm₁ X₁.warmed) with ⟨v, B, X', hpost, hsteps⟩ | ⟨q, B, X', hpost, hsteps⟩
  · exact Or.inl ⟨v, vm₁, B, X₁.warmed, X', hpost, fun target h => hstep₁ _ fun acts => by rw [doInvoke_state]; exact hsteps.trans h⟩
  · exact Or.inr ⟨q, vm₁, B, X₁.warmed, X', hpost, hstep₁ _ fun acts => by rw [doInvoke_state]; exact hsteps⟩
theorem vx_callSX (X : Stand p l e R s m args below meth c T locs cells slots) (hexec : p.tables.exec = Jvm.exec) {own : String} {index : Nat} {y : MethodName} {bytes : ByteArray} {maxL : Nat} {ret : Option FieldType} {hh : List (Nat × Nat × Nat × Nat)}
    (hown : s.vm.findClass own = some m.cls) (hlink : (Cond.methodLink own index y).before args s = true) (hstat : (Cond.static y).before args s = true) (hinit : (Cond.initialized y.cls).before args s = true)
    (hcode : (Cond.codeWith y bytes maxL ret hh).before args s = true) (hy : y.cls ≠ "java/lang/invoke/MethodHandle" ∧ y.cls ≠ "java/lang/invoke/VarHandle")
    {W9 : Nat} {Pre : Pt → Array Value → Prop} {Post : Pt → Array Value → Option Value → Pt → Prop} {PostX : Pt → Array Value → Addr → Pt → Prop} (hK : vx_Back l R p e below s args y 3 W9 Pre Post PostX)
    {g : JFrame} (hg : g.method = m) (hsize : g.locals.size = c.maxLocals) {argsL rest : List Value} (hlen : ∀ sig, parseMethodDescriptor y.desc = some sig → argsL.length = sig.parameters.length)
    (hstack : g.stack = argsL.reverse ++ rest) (hW : 2 * g.monitorRoom + (rest.map fun v => v.category).sum ≤ W9) (hdg : decode c.code g.pc = .ok (.invokestatic index, 3))
    (hpre : ∀ vm₁, s.WarmedH vm₁ → Pre ⟨T.setVm vm₁, locs, cells, slots⟩ argsL.toArray) :
    (∃ (v : Option Value) (vm₁ : Vm) (B : Pt), s.WarmedH vm₁ ∧ Stand p l e R s m args below meth c B.U B.locs B.cells B.slots ∧ Post ⟨T.setVm vm₁, locs, cells, slots⟩ argsL.toArray v B ∧
      ∀ target, Steps p.tables e below (B.U.setTop { g with pc := g.pc + 3, stack := v.toList ++ rest }) target → Steps p.tables e below (T.setTop g) target) ∨
    (∃ (q : Addr) (vm₁ : Vm) (B : Pt), s.WarmedH vm₁ ∧ Stand p l e R s m args below meth c B.U B.locs B.cells B.slots ∧ PostX ⟨T.setVm vm₁, locs, cells, slots⟩ argsL.toArray q B ∧
      Steps p.tables e below (T.setTop g) ((B.U.setTop { g with stack := rest }).pushFrame (.throwing q))) := by
  obtain ⟨mk, methM, cM, hnamed, hmethM, -, -, -, -, -, -, hsigM⟩ := Cond.codeWith_spec hcode
  have hstatic : methM.isStatic = true := Cond.static_spec hnamed hmethM hstat
  obtain ⟨kP, hkP, -⟩ := className_of_methodNamed hnamed
  have hinitP : kP.init = .initialized := Cond.initialized_spec (findClass_of_methodNamed hnamed) hkP hinit
  obtain ⟨vm₁, X₁, hstep₁⟩ := X.invokestatic hexec hown hlink hnamed hmethM hstatic hkP hinitP hy (g := g) hg (argsL := argsL) (rest := rest) (hlen _ hsigM) hstack hdg
  rcases hK m meth c ⟨T.setVm vm₁, locs, cells, slots⟩ { g with stack := rest } (.invokestatic index) mk argsL.toArray X₁ hg hsize hdg hW (X₁.named hnamed) (hpre vm₁ X₁.warmed) with ⟨v, B, X', hpost, hsteps⟩ | ⟨q, B, X', hpost, hsteps⟩
  · exact Or.inl ⟨v, vm₁, B, X₁.warmed, X', hpost, fun target h => hstep₁ _ fun acts => by rw [doInvoke_state]; exact hsteps.trans h⟩
  · exact Or.inr ⟨q, vm₁, B, X₁.warmed, X', hpost, hstep₁ _ fun acts => by rw [doInvoke_state]; exact hsteps⟩
theorem vx_callVW (X : Stand p l e R s m args below meth c T locs cells slots) (hexec : p.tables.exec = Jvm.exec) {own C : String} {index : Nat} {y : MethodName} {bytes : ByteArray} {maxL : Nat} {ret : Option FieldType} {hh : List (Nat × Nat × Nat × Nat)}
    (hown : s.vm.findClass own = some m.cls) (hlink : (Cond.methodLink own index y).before args s = true) (hinst : (Cond.instanceMethod y).before args s = true) (hsel : (Cond.selects C y y).before args s = true)
    (hcode : (Cond.codeWith y bytes maxL ret hh).before args s = true) (hy : y.cls ≠ "java/lang/invoke/MethodHandle" ∧ y.cls ≠ "java/lang/invoke/VarHandle")
    {W9 : Nat} {Pre : Pt → Array Value → Prop} {Post : Pt → Array Value → Option Value → Pt → Prop} (hK : Back l R p e below s args y 3 W9 Pre Post)
    {b : Addr} {cellB : Cell} (hcell : T.heap[b]? = some cellB) (hobj : cellB.vm.isStatics = false) (hcls : s.vm.findClass C = some cellB.cls)
    {g : JFrame} (hg : g.method = m) (hsize : g.locals.size = c.maxLocals) {argsL rest : List Value} (hlen : ∀ sig, parseMethodDescriptor y.desc = some sig → argsL.length = sig.parameters.length)
    (hstack : g.stack = argsL.reverse ++ .ref b :: rest) (hW : 2 * g.monitorRoom + (rest.map fun v => v.category).sum ≤ W9) (hdg : decode c.code g.pc = .ok (.invokevirtual index, 3))
    (hpre : ∀ vm₁, s.WarmedH vm₁ → Pre ⟨T.setVm vm₁, locs, cells, slots⟩ (Value.ref b :: argsL).toArray) :
    ∃ (v : Option Value) (vm₁ : Vm) (B : Pt), s.WarmedH vm₁ ∧ Stand p l e R s m args below meth c B.U B.locs B.cells B.slots ∧ Post ⟨T.setVm vm₁, locs, cells, slots⟩ (Value.ref b :: argsL).toArray v B ∧
      ∀ target, Steps p.tables e below (B.U.setTop { g with pc := g.pc + 3, stack := v.toList ++ rest }) target → Steps p.tables e below (T.setTop g) target := by
  obtain ⟨mk, methM, hnamed, hmethM, hstM, habM⟩ := Cond.instanceMethod_spec hinst
  obtain ⟨m8, methM', cM, hn8, hmethM', -, -, -, -, -, -, hsigM⟩ := Cond.codeWith_spec hcode
  cases Option.some.inj (hn8.symm.trans hnamed)
  cases hmethM.symm.trans hmethM'
  obtain ⟨c2, r2, m2, q1, q2, q3, q4, kP, hkP, hkPi⟩ := Cond.selects_spec hsel
  cases hcls.symm.trans q1
  cases (State.methodFound?_of_named hnamed hy).symm.trans q2
  cases hnamed.symm.trans q3
  have hselP : selectMethod e.platform s.vm cellB.cls mk = .method mk := by rw [Launch.admits_selectMethod X.admits]; exact q4
  obtain ⟨vm₁, X₁, hstep₁⟩ := X.invokevirtual hexec hown hlink hnamed hmethM hstM hkP hkPi hy (a := b) (cell := cellB) hcell
    (fun z h => by rw [h] at hobj; cases hobj) hselP hmethM habM hkP hkPi (g := g) hg (argsL := argsL) (rest := rest) (hlen _ hsigM) hstack hdg
  obtain ⟨v, B, X', hpost, hsteps⟩ := hK m meth c ⟨T.setVm vm₁, locs, cells, slots⟩ { g with stack := rest } (.invokevirtual index) mk (Value.ref b :: argsL).toArray X₁ hg hsize hdg hW (X₁.named hnamed) (hpre vm₁ X₁.warmed)
  exact ⟨v, vm₁, B, X₁.warmed, X', hpost, fun target h => hstep₁ _ fun acts => by rw [doInvoke_state]; exact hsteps.trans h⟩
abbrev vx_CVW (R : Room) (s : State) (args : Array Value) (own C : String) (index : Nat) (y : MethodName) (bytes : ByteArray) (maxL : Nat) (ret : Option FieldType) (hh : List (Nat × Nat × Nat × Nat)) (ws : List Cond) (rm : Room) (mc ms n : Nat) : Prop :=
  (rm.cells = mc ∧ rm.slots = ms ∧ rm.frames + 1 ≤ R.frames ∧ 8 + (maxL + 11) + rm.locals ≤ R.locals ∧ (∀ w ∈ ws, ∀ (a' : Array Value) (U : State), s.WarmedH U.vm → w.before a' U = true) ∧ Cond.codeWith y bytes maxL ret hh ∈ ws) ∧
  (Cond.codeWith y bytes maxL ret hh).before args s = true ∧ (Cond.initialized y.cls).before args s = true ∧ (y.cls ≠ "java/lang/invoke/MethodHandle" ∧ y.cls ≠ "java/lang/invoke/VarHandle") ∧
  (∀ sig, parseMethodDescriptor y.desc = some sig → n = sig.parameters.length) ∧ (Cond.methodLink own index y).before args s = true ∧ (Cond.instanceMethod y).before args s = true ∧ (Cond.selects C y y).before args s = true
theorem vx_cwVW {own C : String} {index maxL mc ms : Nat} {y : MethodName} {bytes : ByteArray} {ret : Option FieldType} {hh : List (Nat × Nat × Nat × Nat)} {Ts ws ws' : List Cond} {rm : Room} (n : Nat) (ht : ∀ w ∈ Ts, w.before args s = true) (hT : GoodIn Ts (wsV own index C y ws)) (hw : ws = Cond.codeWith y bytes maxL ret hh :: ws') (hrc : rm.cells = mc) (hrs : rm.slots = ms)
    (hd : y.cls = C ∧ y.cls ≠ "java/lang/invoke/MethodHandle" ∧ y.cls ≠ "java/lang/invoke/VarHandle" ∧ (parseMethodDescriptor y.desc).map (fun d => d.parameters.length) = some n) (hR : rm.frames + 1 ≤ R.frames ∧ 8 + (maxL + 11) + rm.locals ≤ R.locals) :
    vx_CVW R s args own C index y bytes maxL ret hh ws rm mc ms n := by
  obtain ⟨hC, hd⟩ := hd
  subst hC
  have ok : ∀ w ∈ wsV own index y.cls y ws, w.before args s = true := fun w h => ht w (hT w h).1
  have hG : GoodIn Ts ws := fun w h => hT w (by unfold wsV; exact List.mem_append_right _ h)
  have hc : Cond.codeWith y bytes maxL ret hh ∈ ws := by rw [hw]; exact List.mem_cons_self
  refine ⟨⟨hrc, hrs, hR.1, hR.2, pay_in ht hG, hc⟩, ht _ (hG _ hc).1, ok _ (by simp [wsV]), ⟨hd.1, hd.2.1⟩, fun sig h => ?_, ok _ (by simp [wsV]), ok _ (by simp [wsV]), ok _ (by simp [wsV])⟩
  have h2 := hd.2.2
  rw [h] at h2
  exact (Option.some.inj h2).symm
theorem vx_runVW {y : MethodName} {bytes cc : ByteArray} {maxL nL mc ms n index : Nat} {ret : Option FieldType} {hh : List (Nat × Nat × Nat × Nat)} {ws : List Cond} {rm : Room} {Pc : Array Value → State → Prop} {Qc : Array Value → State → Outcome → State → Prop} {free : Addr → Prop} {Ts : List Cond} {own C : String} {b : Addr} {As rest : List Value} {g : JFrame}
    (S : CallFix p m c cc nL s args Ts own) (hM : Met l y ws rm Pc Qc mc ms free) (cw : vx_CVW R s args own C index y bytes maxL ret hh ws rm mc ms n) (hp : PreV s H C b Pc As)
    (hg : g.method = m) (hn : As.length = n) (hsize : g.locals.size = nL) (hstack : g.stack = As.reverse ++ .ref b :: rest) (hW : 2 * g.monitorRoom + (rest.map fun v => v.category).sum ≤ 8) (hdg : decode cc g.pc = .ok (.invokevirtual index, 3)) (hf : cells + mc ≤ R.cells ∧ slots + ms ≤ R.slots) :
    va_Run p l e R s m args below meth c H locs cells slots mc ms g rest (Qc (Value.ref b :: As).toArray) free := by
  obtain ⟨⟨hrc, hrs, hfr, hlo, hws, hcw⟩, hcode, hini, hy, hlen, hl, hin, hse⟩ := cw
  have hK : Back l R p e below s args y 3 8 (PreOf R mc ms Pc) (PostOf Qc mc ms free) := va_backW (hh := hh) (bytes := bytes) (maxL := maxL) (ret := ret) hM hp.1 hrc hrs hfr hlo hws hcw (fun a' U hW => word_at hW (Or.inl (by first | rfl | simp [Cond.onTables, Cond.keeps, Cond.steady])) hini)
  obtain ⟨hx, hb, hml, ho, -⟩ := S
  obtain ⟨-, ⟨cellB, hcB, hoB, hclB⟩, hPc⟩ := hp
  intro T hT X
  obtain ⟨v, vm₁, ⟨U', l2, c2, s2⟩, hW₁, X', ⟨g', mk, t, L, e1, e2, hq, h1, hL, h2, h3⟩, st⟩ := vx_callVW X hx (C := C) (hh := hh) (bytes := bytes) (maxL := maxL) (ret := ret) ho hl hin hse hcode hy hK (by rw [hT]; exact hcB) hoB hclB hg (hsize.trans hml.symm) (argsL := As) (rest := rest) (fun sig h => hn.trans (hlen sig h)) hstack hW (by rw [hb]; exact hdg)
    (fun vm₁ hW₁ => ⟨hf.1, hf.2, hPc (T.setVm vm₁) hT hW₁⟩)
  dsimp only [Pt.U, Pt.locs, Pt.cells, Pt.slots] at X' e1 e2 h1 h2 h3 st
  subst h1; subst h2; subst h3
  exact ⟨v, (T.setVm vm₁).calling g' mk (Value.ref b :: As).toArray, t, U', L, hT, X', hL, e1, e2, hq, st⟩
section
variable {y : MethodName} {bytes cc : ByteArray} {maxL nL mc ms n index : Nat} {ret : Option FieldType} {ws : List Cond} {rm : Room} {Pc : Array Value → State → Prop} {Qc : Array Value → State → Outcome → State → Prop} {XC : String → State → State → Prop} {free : Addr → Prop} {Ts : List Cond} {own C : String} {b : Addr} {As rest : List Value} {g : JFrame}
theorem vx_runVX {hh : List (Nat × Nat × Nat × Nat)} (S : CallFix p m c cc nL s args Ts own) (hM : vx_Met l y ws rm Pc Qc XC mc ms free) (cw : vx_CVW R s args own C index y bytes maxL ret hh ws rm mc ms n) (hp : PreV s H C b Pc As)
    (hg : g.method = m) (hn : As.length = n) (hsize : g.locals.size = nL) (hstack : g.stack = As.reverse ++ .ref b :: rest) (hW : 2 * g.monitorRoom + (rest.map fun v => v.category).sum ≤ 8) (hdg : decode cc g.pc = .ok (.invokevirtual index, 3)) (hf : cells + mc ≤ R.cells ∧ slots + ms ≤ R.slots) :
    vx_Run p l e R s m args below meth c H locs cells slots mc ms g rest (Qc (Value.ref b :: As).toArray) XC free := by
  obtain ⟨⟨hrc, hrs, hfr, hlo, hws, hcw⟩, hcode, hini, hy, hlen, hl, hin, hse⟩ := cw
  have hK : vx_Back l R p e below s args y 3 8 (PreOf R mc ms Pc) (PostOf Qc mc ms free) (vx_Post XC mc ms free) := vx_backW (hh := hh) (bytes := bytes) (maxL := maxL) (ret := ret) hM hp.1 hrc hrs hfr hlo hws hcw (fun a' U hW => word_at hW (Or.inl (by first | rfl | simp [Cond.onTables, Cond.keeps, Cond.steady])) hini)
  obtain ⟨hx, hb, hml, ho, -⟩ := S
  obtain ⟨-, ⟨cellB, hcB, hoB, hclB⟩, hPc⟩ := hp
  intro T hT X
  rcases vx_callVX X hx (C := C) (hh := hh) (bytes := bytes) (maxL := maxL) (ret := ret) ho hl hin hse hcode hy hK (by rw [hT]; exact hcB) hoB hclB hg (hsize.trans hml.symm) (argsL := As) (rest := rest) (fun sig h => hn.trans (hlen sig h)) hstack hW (by rw [hb]; exact hdg)
    (fun vm₁ hW₁ => ⟨hf.1, hf.2, hPc (T.setVm vm₁) hT hW₁⟩) with ⟨v, vm₁, ⟨U', l2, c2, s2⟩, hW₁, X', ⟨g', mk, t, L, e1, e2, hq, h1, hL, h2, h3⟩, st⟩ | ⟨q, vm₁, ⟨U', l2, c2, s2⟩, hW₁, X', ⟨g', mk, t, L, E, ce, e1, e2, hq, hce, hcv, hcl, h1, hL, h2, h3⟩, st⟩
  · dsimp only [Pt.U, Pt.locs, Pt.cells, Pt.slots] at X' e1 e2 h1 h2 h3 st
    subst h1; subst h2; subst h3
    exact Or.inl ⟨v, (T.setVm vm₁).calling g' mk (Value.ref b :: As).toArray, t, U', L, hT, X', hL, e1, e2, hq, st⟩
  · dsimp only [Pt.U, Pt.locs, Pt.cells, Pt.slots] at X' e1 e2 h1 h2 h3 st hcl
    subst h1; subst h2; subst h3
    exact Or.inr ⟨q, (T.setVm vm₁).calling g' mk (Value.ref b :: As).toArray, t, U', L, E, ce, hT, X', hL, e1, e2, hq, hce, hcv, vx_cls hW₁ hcl, st⟩
theorem vx_runSX {hh : List (Nat × Nat × Nat × Nat)} (S : CallFix p m c cc nL s args Ts own) (hM : vx_Met l y ws rm Pc Qc XC mc ms free) (cw : vx_CSW R s args own index y bytes maxL ret hh ws rm mc ms n) (hp : PreS s H Pc As)
    (hg : g.method = m) (hn : As.length = n) (hsize : g.locals.size = nL) (hstack : g.stack = As.reverse ++ rest) (hW : 2 * g.monitorRoom + (rest.map fun v => v.category).sum ≤ 8) (hdg : decode cc g.pc = .ok (.invokestatic index, 3)) (hf : cells + mc ≤ R.cells ∧ slots + ms ≤ R.slots) :
    vx_Run p l e R s m args below meth c H locs cells slots mc ms g rest (Qc As.toArray) XC free := by
  obtain ⟨⟨hrc, hrs, hfr, hlo, hws, hcw⟩, hcode, hini, hy, hlen, hl, hstt⟩ := cw
  have hK : vx_Back l R p e below s args y 3 8 (PreOf R mc ms Pc) (PostOf Qc mc ms free) (vx_Post XC mc ms free) := vx_backW (hh := hh) (bytes := bytes) (maxL := maxL) (ret := ret) hM hp.1 hrc hrs hfr hlo hws hcw (fun a' U hW => word_at hW (Or.inl (by first | rfl | simp [Cond.onTables, Cond.keeps, Cond.steady])) hini)
  obtain ⟨hx, hb, hml, ho, -⟩ := S
  intro T hT X
  rcases vx_callSX X hx (hh := hh) (bytes := bytes) (maxL := maxL) (ret := ret) ho hl hstt hini hcode hy hK hg (hsize.trans hml.symm) (argsL := As) (rest := rest) (fun sig h => hn.trans (hlen sig h)) hstack hW (by rw [hb]; exact hdg)
    (fun vm₁ hW₁ => ⟨hf.1, hf.2, hp.2 (T.setVm vm₁) hT hW₁⟩) with ⟨v, vm₁, ⟨U', l2, c2, s2⟩, hW₁, X', ⟨g', mk, t, L, e1, e2, hq, h1, hL, h2, h3⟩, st⟩ | ⟨q, vm₁, ⟨U', l2, c2, s2⟩, hW₁, X', ⟨g', mk, t, L, E, ce, e1, e2, hq, hce, hcv, hcl, h1, hL, h2, h3⟩, st⟩
  · dsimp only [Pt.U, Pt.locs, Pt.cells, Pt.slots] at X' e1 e2 h1 h2 h3 st
    subst h1; subst h2; subst h3
    exact Or.inl ⟨v, (T.setVm vm₁).calling g' mk As.toArray, t, U', L, hT, X', hL, e1, e2, hq, st⟩
  · dsimp only [Pt.U, Pt.locs, Pt.cells, Pt.slots] at X' e1 e2 h1 h2 h3 st hcl
    subst h1; subst h2; subst h3
    exact Or.inr ⟨q, (T.setVm vm₁).calling g' mk As.toArray, t, U', L, E, ce, hT, X', hL, e1, e2, hq, hce, hcv, vx_cls hW₁ hcl, st⟩
end
end VXH
theorem vx_ofWH {l : Launch} {y : MethodName} {ws ws' : List Cond} {rm : Room} {Pc : Array Value → State → Prop} {Qc : Array Value → State → Outcome → State → Prop} {XC : String → State → State → Prop} {mc ms : Nat} {free : Addr → Prop} {cc : ByteArray} {maxL : Nat} {ret : Option FieldType} {hh : List (Nat × Nat × Nat × Nat)}
    (hy : plainName y.cls = true) (hw : ws = Cond.codeWith y cc maxL ret hh :: ws')
    (body : ∀ p e s m args below meth c s₁, BodyLoose p l y (headSpec ws rm) cc maxL ret e s m args below meth c s₁ → c.maxLocals = maxL → Pc args s →
      W p l e (headSpec ws rm).room s m args below meth c s.heap [] 0 0 (vx_MQ below Qc XC args s mc ms free) (entryFrame m args maxL)) : vx_Met l y ws rm Pc Qc XC mc ms free := by
  refine MetFree.of_bodyS (code := cc) (maxLocals := maxL) (ret := ret) hy ?_ ?_
  · intro args s m h hn
    obtain ⟨m9, meth, c, hn9, h1, h2, h3, h4, -, h5, h6, -⟩ := Cond.codeWith_spec (atoms_spec (ws := ws) h _ (by rw [hw]; exact List.mem_cons_self))
    cases hn.symm.trans hn9
    exact ⟨meth, c, h1, h2, h3, h4, h5, h6⟩
  · intro p e s m args below meth c s₁ B hml hP _
    have hh0 : s₁.heap = s.heap := by rw [B.state]; rfl
    obtain ⟨t, a1, o, b1, b2, b3⟩ := body p e s m args below meth c s₁ B hml hP s₁ hh0 (Stand.of_body B)
    exact ⟨t, o, a1, b1, b2, b3⟩
/-! ===== END ===== -/
end
section
/-! names, fields, codes (from the printed names) -/
def RX0 : String := "GlassLabels$Label"
def TX0 : u_T := fun k => match k with
  | 0 => ("GlassLabels$Label", "ware", "I", false)
  | 1 => ("GlassLabels$Label", "shown", "I", false)
  | 2 => ("GlassLabels$Label", "ghosts", "I", false)
  | 3 => ("GlassLabels$Label", "battery", "I", false)
  | 4 => ("GlassLabels$Label", "order", "I", false)
  | 5 => ("GlassLabels$Label", "dueSince", "I", false)
  | 6 => ("GlassLabels$Label", "sendingsToLose", "I", false)
  | _ => ("GlassLabels$Label", "answersToLose", "I", false)
def tyX0 : Nat → FieldType := fun k => match k with
  | 0 => .int
  | 1 => .int
  | 2 => .int
  | 3 => .int
  | 4 => .int
  | 5 => .int
  | 6 => .int
  | _ => .int
abbrev wsX00 : List Cond := u_ws RX0 TX0 8
theorem nmX0 : ∀ a, a < 8 → ∀ b, b < 8 → a ≠ b → (TX0 a).2.1 ≠ (TX0 b).2.1 := by decide +kernel
theorem tyX0_ok : ∀ k, k < 8 → parseFieldDescriptor (TX0 k).2.2.1 = some (tyX0 k) := by decide +kernel
abbrev cX0_init : ByteArray := prog_2_method_1_code
def yX0_init : MethodName := ⟨RX0, "<init>", "()V"⟩
abbrev cX0_isDue : ByteArray := prog_2_method_2_code
def yX0_isDue : MethodName := ⟨RX0, "isDue", "(I)Z"⟩
abbrev cX0_isSentBefore : ByteArray := prog_2_method_3_code
def yX0_isSentBefore : MethodName := ⟨RX0, "isSentBefore", "(LGlassLabels$Label;)Z"⟩
abbrev cX0_getSending : ByteArray := prog_2_method_4_code
def yX0_getSending : MethodName := ⟨RX0, "getSending", "(II)V"⟩
abbrev cX0_listen : ByteArray := prog_2_method_5_code
def yX0_listen : MethodName := ⟨RX0, "listen", "()V"⟩
abbrev cX0_redraw : ByteArray := prog_2_method_6_code
def yX0_redraw : MethodName := ⟨RX0, "redraw", "(I)V"⟩
abbrev cX0_answer : ByteArray := prog_2_method_7_code
def yX0_answer : MethodName := ⟨RX0, "answer", "()V"⟩
abbrev cX0_changedDigits : ByteArray := prog_2_method_8_code
def yX0_changedDigits : MethodName := ⟨RX0, "changedDigits", "(II)I"⟩
def RX1 : String := "GlassLabels$Memory"
def TX1 : u_T := fun k => match k with
  | 0 => ("GlassLabels$Memory", "leastAtEnd", "[[I", true)
  | _ => ("GlassLabels$Memory", "leastEnded", "[I", true)
def tyX1 : Nat → FieldType := fun k => match k with
  | 0 => .array (.array .int)
  | _ => .array .int
abbrev wsX10 : List Cond := u_ws RX1 TX1 2
theorem nmX1 : ∀ a, a < 2 → ∀ b, b < 2 → a ≠ b → (TX1 a).2.1 ≠ (TX1 b).2.1 := by decide +kernel
theorem tyX1_ok : ∀ k, k < 2 → parseFieldDescriptor (TX1 k).2.2.1 = some (tyX1 k) := by decide +kernel
abbrev cX1_init : ByteArray := prog_3_method_1_code
def yX1_init : MethodName := ⟨RX1, "<init>", "()V"⟩
abbrev cX1_openMinute : ByteArray := prog_3_method_2_code
def yX1_openMinute : MethodName := ⟨RX1, "openMinute", "(I)V"⟩
abbrev cX1_note : ByteArray := prog_3_method_3_code
def yX1_note : MethodName := ⟨RX1, "note", "(III)V"⟩
abbrev cX1_leastOfLastHour : ByteArray := prog_3_method_4_code
def yX1_leastOfLastHour : MethodName := ⟨RX1, "leastOfLastHour", "(I)I"⟩
abbrev cX1_leastOfAllTime : ByteArray := prog_3_method_5_code
def yX1_leastOfAllTime : MethodName := ⟨RX1, "leastOfAllTime", "(I)I"⟩
def RX2 : String := "GlassLabels"
def TX2 : u_T := fun k => match k with
  | 0 => ("GlassLabels", "prices", "[I", true)
  | 1 => ("GlassLabels", "labels", "[LGlassLabels$Label;", true)
  | 2 => ("GlassLabels", "memory", "LGlassLabels$Memory;", true)
  | 3 => ("GlassLabels", "hung", "I", false)
  | 4 => ("GlassLabels", "now", "I", false)
  | _ => ("GlassLabels", "lastOrder", "I", false)
def tyX2 : Nat → FieldType := fun k => match k with
  | 0 => .array .int
  | 1 => .array (.object "GlassLabels$Label")
  | 2 => .object "GlassLabels$Memory"
  | 3 => .int
  | 4 => .int
  | _ => .int
abbrev wsX20 : List Cond := u_ws RX2 TX2 6
theorem nmX2 : ∀ a, a < 6 → ∀ b, b < 6 → a ≠ b → (TX2 a).2.1 ≠ (TX2 b).2.1 := by decide +kernel
theorem tyX2_ok : ∀ k, k < 6 → parseFieldDescriptor (TX2 k).2.2.1 = some (tyX2 k) := by decide +kernel
abbrev cX2_init : ByteArray := prog_1_method_1_code
def yX2_init : MethodName := ⟨RX2, "<init>", "()V"⟩
abbrev cX2_setPrice : ByteArray := prog_1_method_2_code
def yX2_setPrice : MethodName := ⟨RX2, "setPrice", "(II)I"⟩
abbrev cX2_price : ByteArray := prog_1_method_3_code
def yX2_price : MethodName := ⟨RX2, "price", "(I)I"⟩
abbrev cX2_hang : ByteArray := prog_1_method_4_code
def yX2_hang : MethodName := ⟨RX2, "hang", "(I)I"⟩
abbrev cX2_carry : ByteArray := prog_1_method_5_code
def yX2_carry : MethodName := ⟨RX2, "carry", "(II)Z"⟩
abbrev cX2_charge : ByteArray := prog_1_method_6_code
def yX2_charge : MethodName := ⟨RX2, "charge", "(I)I"⟩
abbrev cX2_loseSendings : ByteArray := prog_1_method_7_code
def yX2_loseSendings : MethodName := ⟨RX2, "loseSendings", "(II)I"⟩
abbrev cX2_loseAnswers : ByteArray := prog_1_method_8_code
def yX2_loseAnswers : MethodName := ⟨RX2, "loseAnswers", "(II)I"⟩
abbrev cX2_pass : ByteArray := prog_1_method_9_code
def yX2_pass : MethodName := ⟨RX2, "pass", "(I)I"⟩
abbrev cX2_time : ByteArray := prog_1_method_10_code
def yX2_time : MethodName := ⟨RX2, "time", "()I"⟩
abbrev cX2_order : ByteArray := prog_1_method_11_code
def yX2_order : MethodName := ⟨RX2, "order", "(I)I"⟩
abbrev cX2_orders : ByteArray := prog_1_method_12_code
def yX2_orders : MethodName := ⟨RX2, "orders", "()I"⟩
abbrev cX2_nextToSend : ByteArray := prog_1_method_13_code
def yX2_nextToSend : MethodName := ⟨RX2, "nextToSend", "()I"⟩
abbrev cX2_shown : ByteArray := prog_1_method_14_code
def yX2_shown : MethodName := ⟨RX2, "shown", "(I)I"⟩
abbrev cX2_ghosts : ByteArray := prog_1_method_15_code
def yX2_ghosts : MethodName := ⟨RX2, "ghosts", "(I)I"⟩
abbrev cX2_battery : ByteArray := prog_1_method_16_code
def yX2_battery : MethodName := ⟨RX2, "battery", "(I)I"⟩
abbrev cX2_lies : ByteArray := prog_1_method_17_code
def yX2_lies : MethodName := ⟨RX2, "lies", "()I"⟩
abbrev cX2_asked : ByteArray := prog_1_method_18_code
def yX2_asked : MethodName := ⟨RX2, "asked", "(I)I"⟩
abbrev cX2_leastEver : ByteArray := prog_1_method_19_code
def yX2_leastEver : MethodName := ⟨RX2, "leastEver", "(I)I"⟩
abbrev cX2_needWare : ByteArray := prog_1_method_20_code
def yX2_needWare : MethodName := ⟨RX2, "needWare", "(I)V"⟩
abbrev cX2_needWithin : ByteArray := prog_1_method_21_code
def yX2_needWithin : MethodName := ⟨RX2, "needWithin", "(III)V"⟩
abbrev cX2_labelOf : ByteArray := prog_1_method_22_code
def yX2_labelOf : MethodName := ⟨RX2, "labelOf", "(I)LGlassLabels$Label;"⟩
abbrev cX2_giveOrder : ByteArray := prog_1_method_23_code
def yX2_giveOrder : MethodName := ⟨RX2, "giveOrder", "(LGlassLabels$Label;)V"⟩
abbrev cX2_passOneMinute : ByteArray := prog_1_method_24_code
def yX2_passOneMinute : MethodName := ⟨RX2, "passOneMinute", "()I"⟩
abbrev cX2_endMinute : ByteArray := prog_1_method_25_code
def yX2_endMinute : MethodName := ⟨RX2, "endMinute", "()V"⟩
abbrev cX2_leastShownNow : ByteArray := prog_1_method_26_code
def yX2_leastShownNow : MethodName := ⟨RX2, "leastShownNow", "(I)I"⟩
def RX3 : String := "GlassLabelsModel"
def TX3 : u_T := fun k => match k with
  | 0 => ("GlassLabelsModel", "thrown", "I", false)
  | 1 => ("GlassLabelsModel", "time", "I", false)
  | 2 => ("GlassLabelsModel", "made", "I", false)
  | 3 => ("GlassLabelsModel", "prices", "[I", true)
  | 4 => ("GlassLabelsModel", "labels", "I", false)
  | 5 => ("GlassLabelsModel", "wares", "[I", true)
  | 6 => ("GlassLabelsModel", "shown", "[I", true)
  | 7 => ("GlassLabelsModel", "ghosts", "[I", true)
  | 8 => ("GlassLabelsModel", "batteries", "[I", true)
  | 9 => ("GlassLabelsModel", "lostSendings", "[I", true)
  | 10 => ("GlassLabelsModel", "lostAnswers", "[I", true)
  | 11 => ("GlassLabelsModel", "orders", "[I", true)
  | 12 => ("GlassLabelsModel", "dues", "[I", true)
  | 13 => ("GlassLabelsModel", "least", "[I", true)
  | _ => ("GlassLabelsModel", "ever", "[I", true)
def tyX3 : Nat → FieldType := fun k => match k with
  | 0 => .int
  | 1 => .int
  | 2 => .int
  | 3 => .array .int
  | 4 => .int
  | 5 => .array .int
  | 6 => .array .int
  | 7 => .array .int
  | 8 => .array .int
  | 9 => .array .int
  | 10 => .array .int
  | 11 => .array .int
  | 12 => .array .int
  | 13 => .array .int
  | _ => .array .int
abbrev wsX30 : List Cond := u_ws RX3 TX3 15
theorem nmX3 : ∀ a, a < 15 → ∀ b, b < 15 → a ≠ b → (TX3 a).2.1 ≠ (TX3 b).2.1 := by decide +kernel
theorem tyX3_ok : ∀ k, k < 15 → parseFieldDescriptor (TX3 k).2.2.1 = some (tyX3 k) := by decide +kernel
abbrev cX3_init : ByteArray := prog_5_method_1_code
def yX3_init : MethodName := ⟨RX3, "<init>", "()V"⟩
abbrev cX3_thrown : ByteArray := prog_5_method_2_code
def yX3_thrown : MethodName := ⟨RX3, "thrown", "()I"⟩
abbrev cX3_holds : ByteArray := prog_5_method_3_code
def yX3_holds : MethodName := ⟨RX3, "holds", "(I)Z"⟩
abbrev cX3_isIn : ByteArray := prog_5_method_4_code
def yX3_isIn : MethodName := ⟨RX3, "isIn", "(III)Z"⟩
abbrev cX3_isWare : ByteArray := prog_5_method_5_code
def yX3_isWare : MethodName := ⟨RX3, "isWare", "(I)Z"⟩
abbrev cX3_isLabel : ByteArray := prog_5_method_6_code
def yX3_isLabel : MethodName := ⟨RX3, "isLabel", "(I)Z"⟩
abbrev cX3_gets : ByteArray := prog_5_method_7_code
def yX3_gets : MethodName := ⟨RX3, "gets", "(I)V"⟩
abbrev cX3_setPrice : ByteArray := prog_5_method_8_code
def yX3_setPrice : MethodName := ⟨RX3, "setPrice", "(II)I"⟩
abbrev cX3_price : ByteArray := prog_5_method_9_code
def yX3_price : MethodName := ⟨RX3, "price", "(I)I"⟩
abbrev cX3_hang : ByteArray := prog_5_method_10_code
def yX3_hang : MethodName := ⟨RX3, "hang", "(I)I"⟩
abbrev cX3_carry : ByteArray := prog_5_method_11_code
def yX3_carry : MethodName := ⟨RX3, "carry", "(II)Z"⟩
abbrev cX3_charge : ByteArray := prog_5_method_12_code
def yX3_charge : MethodName := ⟨RX3, "charge", "(I)I"⟩
abbrev cX3_loseSendings : ByteArray := prog_5_method_13_code
def yX3_loseSendings : MethodName := ⟨RX3, "loseSendings", "(II)I"⟩
abbrev cX3_loseAnswers : ByteArray := prog_5_method_14_code
def yX3_loseAnswers : MethodName := ⟨RX3, "loseAnswers", "(II)I"⟩
abbrev cX3_longest : ByteArray := prog_5_method_15_code
def yX3_longest : MethodName := ⟨RX3, "longest", "()I"⟩
abbrev cX3_changed : ByteArray := prog_5_method_16_code
def yX3_changed : MethodName := ⟨RX3, "changed", "(II)I"⟩
abbrev cX3_redraws : ByteArray := prog_5_method_17_code
def yX3_redraws : MethodName := ⟨RX3, "redraws", "(I)V"⟩
abbrev cX3_sends : ByteArray := prog_5_method_18_code
def yX3_sends : MethodName := ⟨RX3, "sends", "(I)V"⟩
abbrev cX3_leastNow : ByteArray := prog_5_method_19_code
def yX3_leastNow : MethodName := ⟨RX3, "leastNow", "(I)I"⟩
abbrev cX3_lesser : ByteArray := prog_5_method_20_code
def yX3_lesser : MethodName := ⟨RX3, "lesser", "(II)I"⟩
abbrev cX3_goes : ByteArray := prog_5_method_21_code
def yX3_goes : MethodName := ⟨RX3, "goes", "()I"⟩
abbrev cX3_pass : ByteArray := prog_5_method_22_code
def yX3_pass : MethodName := ⟨RX3, "pass", "(I)I"⟩
abbrev cX3_time : ByteArray := prog_5_method_23_code
def yX3_time : MethodName := ⟨RX3, "time", "()I"⟩
abbrev cX3_order : ByteArray := prog_5_method_24_code
def yX3_order : MethodName := ⟨RX3, "order", "(I)I"⟩
abbrev cX3_orders : ByteArray := prog_5_method_25_code
def yX3_orders : MethodName := ⟨RX3, "orders", "()I"⟩
abbrev cX3_nextToSend : ByteArray := prog_5_method_26_code
def yX3_nextToSend : MethodName := ⟨RX3, "nextToSend", "()I"⟩
abbrev cX3_shown : ByteArray := prog_5_method_27_code
def yX3_shown : MethodName := ⟨RX3, "shown", "(I)I"⟩
abbrev cX3_ghosts : ByteArray := prog_5_method_28_code
def yX3_ghosts : MethodName := ⟨RX3, "ghosts", "(I)I"⟩
abbrev cX3_battery : ByteArray := prog_5_method_29_code
def yX3_battery : MethodName := ⟨RX3, "battery", "(I)I"⟩
abbrev cX3_lies : ByteArray := prog_5_method_30_code
def yX3_lies : MethodName := ⟨RX3, "lies", "()I"⟩
abbrev cX3_asked : ByteArray := prog_5_method_31_code
def yX3_asked : MethodName := ⟨RX3, "asked", "(I)I"⟩
abbrev cX3_leastEver : ByteArray := prog_5_method_32_code
def yX3_leastEver : MethodName := ⟨RX3, "leastEver", "(I)I"⟩
def RJx145de : String := "java/io/Serializable"
def TJx145de : u_T := fun k => match k with
  | _ => ("", "", "", false)
def tyJx145de : Nat → FieldType := fun k => match k with
  | _ => .int
abbrev wsJx145de0 : List Cond := u_ws RJx145de TJx145de 0
theorem nmJx145de : ∀ a, a < 0 → ∀ b, b < 0 → a ≠ b → (TJx145de a).2.1 ≠ (TJx145de b).2.1 := by decide +kernel
theorem tyJx145de_ok : ∀ k, k < 0 → parseFieldDescriptor (TJx145de k).2.2.1 = some (tyJx145de k) := by decide +kernel
def RJ9 : String := "java/lang/Math"
def TJ9 : u_T := fun k => match k with
  | _ => ("", "", "", false)
def tyJ9 : Nat → FieldType := fun k => match k with
  | _ => .int
abbrev wsJ90 : List Cond := u_ws RJ9 TJ9 0
theorem nmJ9 : ∀ a, a < 0 → ∀ b, b < 0 → a ≠ b → (TJ9 a).2.1 ≠ (TJ9 b).2.1 := by decide +kernel
theorem tyJ9_ok : ∀ k, k < 0 → parseFieldDescriptor (TJ9 k).2.2.1 = some (tyJ9 k) := by decide +kernel
abbrev cJ9_min_7cf53 : ByteArray := prog_10_method_69_code
def yJ9_min_7cf53 : MethodName := ⟨RJ9, "min", "(II)I"⟩
def RJ0 : String := "java/lang/String"
def TJ0 : u_T := fun k => match k with
  | _ => ("", "", "", false)
def tyJ0 : Nat → FieldType := fun k => match k with
  | _ => .int
abbrev wsJ00 : List Cond := u_ws RJ0 TJ0 0
theorem nmJ0 : ∀ a, a < 0 → ∀ b, b < 0 → a ≠ b → (TJ0 a).2.1 ≠ (TJ0 b).2.1 := by decide +kernel
theorem tyJ0_ok : ∀ k, k < 0 → parseFieldDescriptor (TJ0 k).2.2.1 = some (tyJ0 k) := by decide +kernel
def RJ7 : String := "java/util/Arrays"
def TJ7 : u_T := fun k => match k with
  | _ => ("", "", "", false)
def tyJ7 : Nat → FieldType := fun k => match k with
  | _ => .int
abbrev wsJ70 : List Cond := u_ws RJ7 TJ7 0
theorem nmJ7 : ∀ a, a < 0 → ∀ b, b < 0 → a ≠ b → (TJ7 a).2.1 ≠ (TJ7 b).2.1 := by decide +kernel
theorem tyJ7_ok : ∀ k, k < 0 → parseFieldDescriptor (TJ7 k).2.2.1 = some (tyJ7 k) := by decide +kernel
abbrev cJ7_fill_53178 : ByteArray := prog_14_method_103_code
def yJ7_fill_53178 : MethodName := ⟨RJ7, "fill", "([II)V"⟩
def RL : String := "GlassLabelsLaw"
abbrev cL_setPrice : ByteArray := method_3_code
def yL_setPrice : MethodName := ⟨RL, "setPrice", "(LGlassLabels;II[J)I"⟩
abbrev cL_price : ByteArray := method_4_code
def yL_price : MethodName := ⟨RL, "price", "(LGlassLabels;I[J)I"⟩
abbrev cL_hang : ByteArray := method_5_code
def yL_hang : MethodName := ⟨RL, "hang", "(LGlassLabels;I[J)I"⟩
abbrev cL_carry : ByteArray := method_6_code
def yL_carry : MethodName := ⟨RL, "carry", "(LGlassLabels;II[J)I"⟩
abbrev cL_charge : ByteArray := method_7_code
def yL_charge : MethodName := ⟨RL, "charge", "(LGlassLabels;I[J)I"⟩
abbrev cL_loseSendings : ByteArray := method_8_code
def yL_loseSendings : MethodName := ⟨RL, "loseSendings", "(LGlassLabels;II[J)I"⟩
abbrev cL_loseAnswers : ByteArray := method_9_code
def yL_loseAnswers : MethodName := ⟨RL, "loseAnswers", "(LGlassLabels;II[J)I"⟩
abbrev cL_pass : ByteArray := method_10_code
def yL_pass : MethodName := ⟨RL, "pass", "(LGlassLabels;I[J)I"⟩
abbrev cL_order : ByteArray := method_11_code
def yL_order : MethodName := ⟨RL, "order", "(LGlassLabels;I[J)I"⟩
abbrev cL_shown : ByteArray := method_12_code
def yL_shown : MethodName := ⟨RL, "shown", "(LGlassLabels;I[J)I"⟩
abbrev cL_ghosts : ByteArray := method_13_code
def yL_ghosts : MethodName := ⟨RL, "ghosts", "(LGlassLabels;I[J)I"⟩
abbrev cL_battery : ByteArray := method_14_code
def yL_battery : MethodName := ⟨RL, "battery", "(LGlassLabels;I[J)I"⟩
abbrev cL_asked : ByteArray := method_15_code
def yL_asked : MethodName := ⟨RL, "asked", "(LGlassLabels;I[J)I"⟩
abbrev cL_leastEver : ByteArray := method_16_code
def yL_leastEver : MethodName := ⟨RL, "leastEver", "(LGlassLabels;I[J)I"⟩
abbrev cL_law : ByteArray := code
def yL_law : MethodName := ⟨RL, "law", "([I)Z"⟩
abbrev vwCl : List vw_C := [(RX0, TX0, 8), (RX1, TX1, 2), (RX2, TX2, 6), (RX3, TX3, 15)]
end
section
/-! decode rows (printed): the class and the JDK -/
theorem dX0_init_0 : decode cX0_init 0 = .ok (.aload_n 0, 1) := by decide +kernel
theorem dX0_init_1 : decode cX0_init 1 = .ok (.invokespecial 3, 3) := by decide +kernel
theorem dX0_init_4 : decode cX0_init 4 = .ok (.aload_n 0, 1) := by decide +kernel
theorem dX0_init_5 : decode cX0_init 5 = .ok (.iconst 0, 1) := by decide +kernel
theorem dX0_init_6 : decode cX0_init 6 = .ok (.putfield 9, 3) := by decide +kernel
theorem dX0_init_9 : decode cX0_init 9 = .ok (.aload_n 0, 1) := by decide +kernel
theorem dX0_init_10 : decode cX0_init 10 = .ok (.iconst 0, 1) := by decide +kernel
theorem dX0_init_11 : decode cX0_init 11 = .ok (.putfield 15, 3) := by decide +kernel
theorem dX0_init_14 : decode cX0_init 14 = .ok (.aload_n 0, 1) := by decide +kernel
theorem dX0_init_15 : decode cX0_init 15 = .ok (.iconst 0, 1) := by decide +kernel
theorem dX0_init_16 : decode cX0_init 16 = .ok (.putfield 18, 3) := by decide +kernel
theorem dX0_init_19 : decode cX0_init 19 = .ok (.aload_n 0, 1) := by decide +kernel
theorem dX0_init_20 : decode cX0_init 20 = .ok (.sipush 1000, 3) := by decide +kernel
theorem dX0_init_23 : decode cX0_init 23 = .ok (.putfield 21, 3) := by decide +kernel
theorem dX0_init_26 : decode cX0_init 26 = .ok (.aload_n 0, 1) := by decide +kernel
theorem dX0_init_27 : decode cX0_init 27 = .ok (.iconst (-1), 1) := by decide +kernel
theorem dX0_init_28 : decode cX0_init 28 = .ok (.putfield 24, 3) := by decide +kernel
theorem dX0_init_31 : decode cX0_init 31 = .ok (.aload_n 0, 1) := by decide +kernel
theorem dX0_init_32 : decode cX0_init 32 = .ok (.iconst 0, 1) := by decide +kernel
theorem dX0_init_33 : decode cX0_init 33 = .ok (.putfield 27, 3) := by decide +kernel
theorem dX0_init_36 : decode cX0_init 36 = .ok (.aload_n 0, 1) := by decide +kernel
theorem dX0_init_37 : decode cX0_init 37 = .ok (.iconst 0, 1) := by decide +kernel
theorem dX0_init_38 : decode cX0_init 38 = .ok (.putfield 30, 3) := by decide +kernel
theorem dX0_init_41 : decode cX0_init 41 = .ok (.aload_n 0, 1) := by decide +kernel
theorem dX0_init_42 : decode cX0_init 42 = .ok (.iconst 0, 1) := by decide +kernel
theorem dX0_init_43 : decode cX0_init 43 = .ok (.putfield 33, 3) := by decide +kernel
theorem dX0_init_46 : decode cX0_init 46 = .ok (.return_, 1) := by decide +kernel
theorem dX0_isDue_0 : decode cX0_isDue 0 = .ok (.aload_n 0, 1) := by decide +kernel
theorem dX0_isDue_1 : decode cX0_isDue 1 = .ok (.getfield 24, 3) := by decide +kernel
theorem dX0_isDue_4 : decode cX0_isDue 4 = .ok (.iconst (-1), 1) := by decide +kernel
theorem dX0_isDue_5 : decode cX0_isDue 5 = .ok (.if_icmp .eq 15, 3) := by decide +kernel
theorem dX0_isDue_8 : decode cX0_isDue 8 = .ok (.aload_n 0, 1) := by decide +kernel
theorem dX0_isDue_9 : decode cX0_isDue 9 = .ok (.getfield 27, 3) := by decide +kernel
theorem dX0_isDue_12 : decode cX0_isDue 12 = .ok (.iload_n 1, 1) := by decide +kernel
theorem dX0_isDue_13 : decode cX0_isDue 13 = .ok (.if_icmp .gt 7, 3) := by decide +kernel
theorem dX0_isDue_16 : decode cX0_isDue 16 = .ok (.iconst 1, 1) := by decide +kernel
theorem dX0_isDue_17 : decode cX0_isDue 17 = .ok (.goto 4, 3) := by decide +kernel
theorem dX0_isDue_20 : decode cX0_isDue 20 = .ok (.iconst 0, 1) := by decide +kernel
theorem dX0_isDue_21 : decode cX0_isDue 21 = .ok (.ireturn, 1) := by decide +kernel
theorem dX0_isSentBefore_0 : decode cX0_isSentBefore 0 = .ok (.aload_n 0, 1) := by decide +kernel
theorem dX0_isSentBefore_1 : decode cX0_isSentBefore 1 = .ok (.getfield 27, 3) := by decide +kernel
theorem dX0_isSentBefore_4 : decode cX0_isSentBefore 4 = .ok (.aload_n 1, 1) := by decide +kernel
theorem dX0_isSentBefore_5 : decode cX0_isSentBefore 5 = .ok (.getfield 27, 3) := by decide +kernel
theorem dX0_isSentBefore_8 : decode cX0_isSentBefore 8 = .ok (.if_icmp .lt 25, 3) := by decide +kernel
theorem dX0_isSentBefore_11 : decode cX0_isSentBefore 11 = .ok (.aload_n 0, 1) := by decide +kernel
theorem dX0_isSentBefore_12 : decode cX0_isSentBefore 12 = .ok (.getfield 27, 3) := by decide +kernel
theorem dX0_isSentBefore_15 : decode cX0_isSentBefore 15 = .ok (.aload_n 1, 1) := by decide +kernel
theorem dX0_isSentBefore_16 : decode cX0_isSentBefore 16 = .ok (.getfield 27, 3) := by decide +kernel
theorem dX0_isSentBefore_19 : decode cX0_isSentBefore 19 = .ok (.if_icmp .ne 18, 3) := by decide +kernel
theorem dX0_isSentBefore_22 : decode cX0_isSentBefore 22 = .ok (.aload_n 0, 1) := by decide +kernel
theorem dX0_isSentBefore_23 : decode cX0_isSentBefore 23 = .ok (.getfield 24, 3) := by decide +kernel
theorem dX0_isSentBefore_26 : decode cX0_isSentBefore 26 = .ok (.aload_n 1, 1) := by decide +kernel
theorem dX0_isSentBefore_27 : decode cX0_isSentBefore 27 = .ok (.getfield 24, 3) := by decide +kernel
theorem dX0_isSentBefore_30 : decode cX0_isSentBefore 30 = .ok (.if_icmp .ge 7, 3) := by decide +kernel
theorem dX0_isSentBefore_33 : decode cX0_isSentBefore 33 = .ok (.iconst 1, 1) := by decide +kernel
theorem dX0_isSentBefore_34 : decode cX0_isSentBefore 34 = .ok (.goto 4, 3) := by decide +kernel
theorem dX0_isSentBefore_37 : decode cX0_isSentBefore 37 = .ok (.iconst 0, 1) := by decide +kernel
theorem dX0_isSentBefore_38 : decode cX0_isSentBefore 38 = .ok (.ireturn, 1) := by decide +kernel
theorem dX0_getSending_0 : decode cX0_getSending 0 = .ok (.aload_n 0, 1) := by decide +kernel
theorem dX0_getSending_1 : decode cX0_getSending 1 = .ok (.iload_n 2, 1) := by decide +kernel
theorem dX0_getSending_2 : decode cX0_getSending 2 = .ok (.iconst 5, 1) := by decide +kernel
theorem dX0_getSending_3 : decode cX0_getSending 3 = .ok (.iadd, 1) := by decide +kernel
theorem dX0_getSending_4 : decode cX0_getSending 4 = .ok (.putfield 27, 3) := by decide +kernel
theorem dX0_getSending_7 : decode cX0_getSending 7 = .ok (.aload_n 0, 1) := by decide +kernel
theorem dX0_getSending_8 : decode cX0_getSending 8 = .ok (.getfield 30, 3) := by decide +kernel
theorem dX0_getSending_11 : decode cX0_getSending 11 = .ok (.ifCond .le 16, 3) := by decide +kernel
theorem dX0_getSending_14 : decode cX0_getSending 14 = .ok (.aload_n 0, 1) := by decide +kernel
theorem dX0_getSending_15 : decode cX0_getSending 15 = .ok (.dup, 1) := by decide +kernel
theorem dX0_getSending_16 : decode cX0_getSending 16 = .ok (.getfield 30, 3) := by decide +kernel
theorem dX0_getSending_19 : decode cX0_getSending 19 = .ok (.iconst 1, 1) := by decide +kernel
theorem dX0_getSending_20 : decode cX0_getSending 20 = .ok (.isub, 1) := by decide +kernel
theorem dX0_getSending_21 : decode cX0_getSending 21 = .ok (.putfield 30, 3) := by decide +kernel
theorem dX0_getSending_24 : decode cX0_getSending 24 = .ok (.goto 21, 3) := by decide +kernel
theorem dX0_getSending_27 : decode cX0_getSending 27 = .ok (.aload_n 0, 1) := by decide +kernel
theorem dX0_getSending_28 : decode cX0_getSending 28 = .ok (.getfield 21, 3) := by decide +kernel
theorem dX0_getSending_31 : decode cX0_getSending 31 = .ok (.bipush 20, 2) := by decide +kernel
theorem dX0_getSending_33 : decode cX0_getSending 33 = .ok (.if_icmp .lt 12, 3) := by decide +kernel
theorem dX0_getSending_36 : decode cX0_getSending 36 = .ok (.aload_n 0, 1) := by decide +kernel
theorem dX0_getSending_37 : decode cX0_getSending 37 = .ok (.iload_n 1, 1) := by decide +kernel
theorem dX0_getSending_38 : decode cX0_getSending 38 = .ok (.invokevirtual 36, 3) := by decide +kernel
theorem dX0_getSending_41 : decode cX0_getSending 41 = .ok (.aload_n 0, 1) := by decide +kernel
theorem dX0_getSending_42 : decode cX0_getSending 42 = .ok (.invokevirtual 40, 3) := by decide +kernel
theorem dX0_getSending_45 : decode cX0_getSending 45 = .ok (.return_, 1) := by decide +kernel
theorem dX0_listen_0 : decode cX0_listen 0 = .ok (.aload_n 0, 1) := by decide +kernel
theorem dX0_listen_1 : decode cX0_listen 1 = .ok (.getfield 21, 3) := by decide +kernel
theorem dX0_listen_4 : decode cX0_listen 4 = .ok (.ifCond .le 13, 3) := by decide +kernel
theorem dX0_listen_7 : decode cX0_listen 7 = .ok (.aload_n 0, 1) := by decide +kernel
theorem dX0_listen_8 : decode cX0_listen 8 = .ok (.dup, 1) := by decide +kernel
theorem dX0_listen_9 : decode cX0_listen 9 = .ok (.getfield 21, 3) := by decide +kernel
theorem dX0_listen_12 : decode cX0_listen 12 = .ok (.iconst 1, 1) := by decide +kernel
theorem dX0_listen_13 : decode cX0_listen 13 = .ok (.isub, 1) := by decide +kernel
theorem dX0_listen_14 : decode cX0_listen 14 = .ok (.putfield 21, 3) := by decide +kernel
theorem dX0_listen_17 : decode cX0_listen 17 = .ok (.return_, 1) := by decide +kernel
theorem dX0_redraw_0 : decode cX0_redraw 0 = .ok (.iload_n 1, 1) := by decide +kernel
theorem dX0_redraw_1 : decode cX0_redraw 1 = .ok (.aload_n 0, 1) := by decide +kernel
theorem dX0_redraw_2 : decode cX0_redraw 2 = .ok (.getfield 15, 3) := by decide +kernel
theorem dX0_redraw_5 : decode cX0_redraw 5 = .ok (.if_icmp .ne 4, 3) := by decide +kernel
theorem dX0_redraw_8 : decode cX0_redraw 8 = .ok (.return_, 1) := by decide +kernel
theorem dX0_redraw_9 : decode cX0_redraw 9 = .ok (.aload_n 0, 1) := by decide +kernel
theorem dX0_redraw_10 : decode cX0_redraw 10 = .ok (.getfield 18, 3) := by decide +kernel
theorem dX0_redraw_13 : decode cX0_redraw 13 = .ok (.aload_n 0, 1) := by decide +kernel
theorem dX0_redraw_14 : decode cX0_redraw 14 = .ok (.getfield 15, 3) := by decide +kernel
theorem dX0_redraw_17 : decode cX0_redraw 17 = .ok (.iload_n 1, 1) := by decide +kernel
theorem dX0_redraw_18 : decode cX0_redraw 18 = .ok (.invokestatic 43, 3) := by decide +kernel
theorem dX0_redraw_21 : decode cX0_redraw 21 = .ok (.iadd, 1) := by decide +kernel
theorem dX0_redraw_22 : decode cX0_redraw 22 = .ok (.istore_n 2, 1) := by decide +kernel
theorem dX0_redraw_23 : decode cX0_redraw 23 = .ok (.iload_n 2, 1) := by decide +kernel
theorem dX0_redraw_24 : decode cX0_redraw 24 = .ok (.bipush 9, 2) := by decide +kernel
theorem dX0_redraw_26 : decode cX0_redraw 26 = .ok (.if_icmp .le 22, 3) := by decide +kernel
theorem dX0_redraw_29 : decode cX0_redraw 29 = .ok (.aload_n 0, 1) := by decide +kernel
theorem dX0_redraw_30 : decode cX0_redraw 30 = .ok (.dup, 1) := by decide +kernel
theorem dX0_redraw_31 : decode cX0_redraw 31 = .ok (.getfield 21, 3) := by decide +kernel
theorem dX0_redraw_34 : decode cX0_redraw 34 = .ok (.bipush 20, 2) := by decide +kernel
theorem dX0_redraw_36 : decode cX0_redraw 36 = .ok (.isub, 1) := by decide +kernel
theorem dX0_redraw_37 : decode cX0_redraw 37 = .ok (.putfield 21, 3) := by decide +kernel
theorem dX0_redraw_40 : decode cX0_redraw 40 = .ok (.aload_n 0, 1) := by decide +kernel
theorem dX0_redraw_41 : decode cX0_redraw 41 = .ok (.iconst 0, 1) := by decide +kernel
theorem dX0_redraw_42 : decode cX0_redraw 42 = .ok (.putfield 18, 3) := by decide +kernel
theorem dX0_redraw_45 : decode cX0_redraw 45 = .ok (.goto 19, 3) := by decide +kernel
theorem dX0_redraw_48 : decode cX0_redraw 48 = .ok (.aload_n 0, 1) := by decide +kernel
theorem dX0_redraw_49 : decode cX0_redraw 49 = .ok (.dup, 1) := by decide +kernel
theorem dX0_redraw_50 : decode cX0_redraw 50 = .ok (.getfield 21, 3) := by decide +kernel
theorem dX0_redraw_53 : decode cX0_redraw 53 = .ok (.bipush 10, 2) := by decide +kernel
theorem dX0_redraw_55 : decode cX0_redraw 55 = .ok (.isub, 1) := by decide +kernel
theorem dX0_redraw_56 : decode cX0_redraw 56 = .ok (.putfield 21, 3) := by decide +kernel
theorem dX0_redraw_59 : decode cX0_redraw 59 = .ok (.aload_n 0, 1) := by decide +kernel
theorem dX0_redraw_60 : decode cX0_redraw 60 = .ok (.iload_n 2, 1) := by decide +kernel
theorem dX0_redraw_61 : decode cX0_redraw 61 = .ok (.putfield 18, 3) := by decide +kernel
theorem dX0_redraw_64 : decode cX0_redraw 64 = .ok (.aload_n 0, 1) := by decide +kernel
theorem dX0_redraw_65 : decode cX0_redraw 65 = .ok (.iload_n 1, 1) := by decide +kernel
theorem dX0_redraw_66 : decode cX0_redraw 66 = .ok (.putfield 15, 3) := by decide +kernel
theorem dX0_redraw_69 : decode cX0_redraw 69 = .ok (.return_, 1) := by decide +kernel
theorem dX0_answer_0 : decode cX0_answer 0 = .ok (.aload_n 0, 1) := by decide +kernel
theorem dX0_answer_1 : decode cX0_answer 1 = .ok (.getfield 33, 3) := by decide +kernel
theorem dX0_answer_4 : decode cX0_answer 4 = .ok (.ifCond .le 16, 3) := by decide +kernel
theorem dX0_answer_7 : decode cX0_answer 7 = .ok (.aload_n 0, 1) := by decide +kernel
theorem dX0_answer_8 : decode cX0_answer 8 = .ok (.dup, 1) := by decide +kernel
theorem dX0_answer_9 : decode cX0_answer 9 = .ok (.getfield 33, 3) := by decide +kernel
theorem dX0_answer_12 : decode cX0_answer 12 = .ok (.iconst 1, 1) := by decide +kernel
theorem dX0_answer_13 : decode cX0_answer 13 = .ok (.isub, 1) := by decide +kernel
theorem dX0_answer_14 : decode cX0_answer 14 = .ok (.putfield 33, 3) := by decide +kernel
theorem dX0_answer_17 : decode cX0_answer 17 = .ok (.goto 8, 3) := by decide +kernel
theorem dX0_answer_20 : decode cX0_answer 20 = .ok (.aload_n 0, 1) := by decide +kernel
theorem dX0_answer_21 : decode cX0_answer 21 = .ok (.iconst (-1), 1) := by decide +kernel
theorem dX0_answer_22 : decode cX0_answer 22 = .ok (.putfield 24, 3) := by decide +kernel
theorem dX0_answer_25 : decode cX0_answer 25 = .ok (.return_, 1) := by decide +kernel
theorem dX0_changedDigits_0 : decode cX0_changedDigits 0 = .ok (.iconst 0, 1) := by decide +kernel
theorem dX0_changedDigits_1 : decode cX0_changedDigits 1 = .ok (.istore_n 2, 1) := by decide +kernel
theorem dX0_changedDigits_2 : decode cX0_changedDigits 2 = .ok (.iconst 1, 1) := by decide +kernel
theorem dX0_changedDigits_3 : decode cX0_changedDigits 3 = .ok (.istore_n 3, 1) := by decide +kernel
theorem dX0_changedDigits_4 : decode cX0_changedDigits 4 = .ok (.iconst 0, 1) := by decide +kernel
theorem dX0_changedDigits_5 : decode cX0_changedDigits 5 = .ok (.istore 4, 2) := by decide +kernel
theorem dX0_changedDigits_7 : decode cX0_changedDigits 7 = .ok (.iload 4, 2) := by decide +kernel
theorem dX0_changedDigits_9 : decode cX0_changedDigits 9 = .ok (.iconst 4, 1) := by decide +kernel
theorem dX0_changedDigits_10 : decode cX0_changedDigits 10 = .ok (.if_icmp .ge 32, 3) := by decide +kernel
theorem dX0_changedDigits_13 : decode cX0_changedDigits 13 = .ok (.iload_n 0, 1) := by decide +kernel
theorem dX0_changedDigits_14 : decode cX0_changedDigits 14 = .ok (.iload_n 3, 1) := by decide +kernel
theorem dX0_changedDigits_15 : decode cX0_changedDigits 15 = .ok (.idiv, 1) := by decide +kernel
theorem dX0_changedDigits_16 : decode cX0_changedDigits 16 = .ok (.bipush 10, 2) := by decide +kernel
theorem dX0_changedDigits_18 : decode cX0_changedDigits 18 = .ok (.irem, 1) := by decide +kernel
theorem dX0_changedDigits_19 : decode cX0_changedDigits 19 = .ok (.iload_n 1, 1) := by decide +kernel
theorem dX0_changedDigits_20 : decode cX0_changedDigits 20 = .ok (.iload_n 3, 1) := by decide +kernel
theorem dX0_changedDigits_21 : decode cX0_changedDigits 21 = .ok (.idiv, 1) := by decide +kernel
theorem dX0_changedDigits_22 : decode cX0_changedDigits 22 = .ok (.bipush 10, 2) := by decide +kernel
theorem dX0_changedDigits_24 : decode cX0_changedDigits 24 = .ok (.irem, 1) := by decide +kernel
theorem dX0_changedDigits_25 : decode cX0_changedDigits 25 = .ok (.if_icmp .eq 6, 3) := by decide +kernel
theorem dX0_changedDigits_28 : decode cX0_changedDigits 28 = .ok (.iinc 2 1, 3) := by decide +kernel
theorem dX0_changedDigits_31 : decode cX0_changedDigits 31 = .ok (.iload_n 3, 1) := by decide +kernel
theorem dX0_changedDigits_32 : decode cX0_changedDigits 32 = .ok (.bipush 10, 2) := by decide +kernel
theorem dX0_changedDigits_34 : decode cX0_changedDigits 34 = .ok (.imul, 1) := by decide +kernel
theorem dX0_changedDigits_35 : decode cX0_changedDigits 35 = .ok (.istore_n 3, 1) := by decide +kernel
theorem dX0_changedDigits_36 : decode cX0_changedDigits 36 = .ok (.iinc 4 1, 3) := by decide +kernel
theorem dX0_changedDigits_39 : decode cX0_changedDigits 39 = .ok (.goto (-32), 3) := by decide +kernel
theorem dX0_changedDigits_42 : decode cX0_changedDigits 42 = .ok (.iload_n 2, 1) := by decide +kernel
theorem dX0_changedDigits_43 : decode cX0_changedDigits 43 = .ok (.ireturn, 1) := by decide +kernel
theorem dX1_init_0 : decode cX1_init 0 = .ok (.aload_n 0, 1) := by decide +kernel
theorem dX1_init_1 : decode cX1_init 1 = .ok (.invokespecial 3, 3) := by decide +kernel
theorem dX1_init_4 : decode cX1_init 4 = .ok (.aload_n 0, 1) := by decide +kernel
theorem dX1_init_5 : decode cX1_init 5 = .ok (.bipush 60, 2) := by decide +kernel
theorem dX1_init_7 : decode cX1_init 7 = .ok (.bipush 12, 2) := by decide +kernel
theorem dX1_init_9 : decode cX1_init 9 = .ok (.multianewarray 11 2, 4) := by decide +kernel
theorem dX1_init_13 : decode cX1_init 13 = .ok (.putfield 13, 3) := by decide +kernel
theorem dX1_init_16 : decode cX1_init 16 = .ok (.aload_n 0, 1) := by decide +kernel
theorem dX1_init_17 : decode cX1_init 17 = .ok (.bipush 12, 2) := by decide +kernel
theorem dX1_init_19 : decode cX1_init 19 = .ok (.newarray .int, 2) := by decide +kernel
theorem dX1_init_21 : decode cX1_init 21 = .ok (.putfield 16, 3) := by decide +kernel
theorem dX1_init_24 : decode cX1_init 24 = .ok (.iconst 0, 1) := by decide +kernel
theorem dX1_init_25 : decode cX1_init 25 = .ok (.istore_n 1, 1) := by decide +kernel
theorem dX1_init_26 : decode cX1_init 26 = .ok (.iload_n 1, 1) := by decide +kernel
theorem dX1_init_27 : decode cX1_init 27 = .ok (.bipush 60, 2) := by decide +kernel
theorem dX1_init_29 : decode cX1_init 29 = .ok (.if_icmp .ge 21, 3) := by decide +kernel
theorem dX1_init_32 : decode cX1_init 32 = .ok (.aload_n 0, 1) := by decide +kernel
theorem dX1_init_33 : decode cX1_init 33 = .ok (.getfield 13, 3) := by decide +kernel
theorem dX1_init_36 : decode cX1_init 36 = .ok (.iload_n 1, 1) := by decide +kernel
theorem dX1_init_37 : decode cX1_init 37 = .ok (.aaload, 1) := by decide +kernel
theorem dX1_init_38 : decode cX1_init 38 = .ok (.sipush 10000, 3) := by decide +kernel
theorem dX1_init_41 : decode cX1_init 41 = .ok (.invokestatic 20, 3) := by decide +kernel
theorem dX1_init_44 : decode cX1_init 44 = .ok (.iinc 1 1, 3) := by decide +kernel
theorem dX1_init_47 : decode cX1_init 47 = .ok (.goto (-21), 3) := by decide +kernel
theorem dX1_init_50 : decode cX1_init 50 = .ok (.aload_n 0, 1) := by decide +kernel
theorem dX1_init_51 : decode cX1_init 51 = .ok (.getfield 16, 3) := by decide +kernel
theorem dX1_init_54 : decode cX1_init 54 = .ok (.sipush 10000, 3) := by decide +kernel
theorem dX1_init_57 : decode cX1_init 57 = .ok (.invokestatic 20, 3) := by decide +kernel
theorem dX1_init_60 : decode cX1_init 60 = .ok (.return_, 1) := by decide +kernel
theorem dX1_openMinute_0 : decode cX1_openMinute 0 = .ok (.aload_n 0, 1) := by decide +kernel
theorem dX1_openMinute_1 : decode cX1_openMinute 1 = .ok (.getfield 13, 3) := by decide +kernel
theorem dX1_openMinute_4 : decode cX1_openMinute 4 = .ok (.iload_n 1, 1) := by decide +kernel
theorem dX1_openMinute_5 : decode cX1_openMinute 5 = .ok (.bipush 60, 2) := by decide +kernel
theorem dX1_openMinute_7 : decode cX1_openMinute 7 = .ok (.irem, 1) := by decide +kernel
theorem dX1_openMinute_8 : decode cX1_openMinute 8 = .ok (.aaload, 1) := by decide +kernel
theorem dX1_openMinute_9 : decode cX1_openMinute 9 = .ok (.sipush 10000, 3) := by decide +kernel
theorem dX1_openMinute_12 : decode cX1_openMinute 12 = .ok (.invokestatic 20, 3) := by decide +kernel
theorem dX1_openMinute_15 : decode cX1_openMinute 15 = .ok (.return_, 1) := by decide +kernel
theorem dX1_note_0 : decode cX1_note 0 = .ok (.aload_n 0, 1) := by decide +kernel
theorem dX1_note_1 : decode cX1_note 1 = .ok (.getfield 13, 3) := by decide +kernel
theorem dX1_note_4 : decode cX1_note 4 = .ok (.iload_n 1, 1) := by decide +kernel
theorem dX1_note_5 : decode cX1_note 5 = .ok (.bipush 60, 2) := by decide +kernel
theorem dX1_note_7 : decode cX1_note 7 = .ok (.irem, 1) := by decide +kernel
theorem dX1_note_8 : decode cX1_note 8 = .ok (.aaload, 1) := by decide +kernel
theorem dX1_note_9 : decode cX1_note 9 = .ok (.astore 4, 2) := by decide +kernel
theorem dX1_note_11 : decode cX1_note 11 = .ok (.aload 4, 2) := by decide +kernel
theorem dX1_note_13 : decode cX1_note 13 = .ok (.iload_n 2, 1) := by decide +kernel
theorem dX1_note_14 : decode cX1_note 14 = .ok (.aload 4, 2) := by decide +kernel
theorem dX1_note_16 : decode cX1_note 16 = .ok (.iload_n 2, 1) := by decide +kernel
theorem dX1_note_17 : decode cX1_note 17 = .ok (.iaload, 1) := by decide +kernel
theorem dX1_note_18 : decode cX1_note 18 = .ok (.iload_n 3, 1) := by decide +kernel
theorem dX1_note_19 : decode cX1_note 19 = .ok (.invokestatic 26, 3) := by decide +kernel
theorem dX1_note_22 : decode cX1_note 22 = .ok (.iastore, 1) := by decide +kernel
theorem dX1_note_23 : decode cX1_note 23 = .ok (.aload_n 0, 1) := by decide +kernel
theorem dX1_note_24 : decode cX1_note 24 = .ok (.getfield 16, 3) := by decide +kernel
theorem dX1_note_27 : decode cX1_note 27 = .ok (.iload_n 2, 1) := by decide +kernel
theorem dX1_note_28 : decode cX1_note 28 = .ok (.aload_n 0, 1) := by decide +kernel
theorem dX1_note_29 : decode cX1_note 29 = .ok (.getfield 16, 3) := by decide +kernel
theorem dX1_note_32 : decode cX1_note 32 = .ok (.iload_n 2, 1) := by decide +kernel
theorem dX1_note_33 : decode cX1_note 33 = .ok (.iaload, 1) := by decide +kernel
theorem dX1_note_34 : decode cX1_note 34 = .ok (.iload_n 3, 1) := by decide +kernel
theorem dX1_note_35 : decode cX1_note 35 = .ok (.invokestatic 26, 3) := by decide +kernel
theorem dX1_note_38 : decode cX1_note 38 = .ok (.iastore, 1) := by decide +kernel
theorem dX1_note_39 : decode cX1_note 39 = .ok (.return_, 1) := by decide +kernel
theorem dX1_leastOfLastHour_0 : decode cX1_leastOfLastHour 0 = .ok (.sipush 10000, 3) := by decide +kernel
theorem dX1_leastOfLastHour_3 : decode cX1_leastOfLastHour 3 = .ok (.istore_n 2, 1) := by decide +kernel
theorem dX1_leastOfLastHour_4 : decode cX1_leastOfLastHour 4 = .ok (.iconst 0, 1) := by decide +kernel
theorem dX1_leastOfLastHour_5 : decode cX1_leastOfLastHour 5 = .ok (.istore_n 3, 1) := by decide +kernel
theorem dX1_leastOfLastHour_6 : decode cX1_leastOfLastHour 6 = .ok (.iload_n 3, 1) := by decide +kernel
theorem dX1_leastOfLastHour_7 : decode cX1_leastOfLastHour 7 = .ok (.bipush 60, 2) := by decide +kernel
theorem dX1_leastOfLastHour_9 : decode cX1_leastOfLastHour 9 = .ok (.if_icmp .ge 22, 3) := by decide +kernel
theorem dX1_leastOfLastHour_12 : decode cX1_leastOfLastHour 12 = .ok (.iload_n 2, 1) := by decide +kernel
theorem dX1_leastOfLastHour_13 : decode cX1_leastOfLastHour 13 = .ok (.aload_n 0, 1) := by decide +kernel
theorem dX1_leastOfLastHour_14 : decode cX1_leastOfLastHour 14 = .ok (.getfield 13, 3) := by decide +kernel
theorem dX1_leastOfLastHour_17 : decode cX1_leastOfLastHour 17 = .ok (.iload_n 3, 1) := by decide +kernel
theorem dX1_leastOfLastHour_18 : decode cX1_leastOfLastHour 18 = .ok (.aaload, 1) := by decide +kernel
theorem dX1_leastOfLastHour_19 : decode cX1_leastOfLastHour 19 = .ok (.iload_n 1, 1) := by decide +kernel
theorem dX1_leastOfLastHour_20 : decode cX1_leastOfLastHour 20 = .ok (.iaload, 1) := by decide +kernel
theorem dX1_leastOfLastHour_21 : decode cX1_leastOfLastHour 21 = .ok (.invokestatic 26, 3) := by decide +kernel
theorem dX1_leastOfLastHour_24 : decode cX1_leastOfLastHour 24 = .ok (.istore_n 2, 1) := by decide +kernel
theorem dX1_leastOfLastHour_25 : decode cX1_leastOfLastHour 25 = .ok (.iinc 3 1, 3) := by decide +kernel
theorem dX1_leastOfLastHour_28 : decode cX1_leastOfLastHour 28 = .ok (.goto (-22), 3) := by decide +kernel
theorem dX1_leastOfLastHour_31 : decode cX1_leastOfLastHour 31 = .ok (.iload_n 2, 1) := by decide +kernel
theorem dX1_leastOfLastHour_32 : decode cX1_leastOfLastHour 32 = .ok (.ireturn, 1) := by decide +kernel
theorem dX1_leastOfAllTime_0 : decode cX1_leastOfAllTime 0 = .ok (.aload_n 0, 1) := by decide +kernel
theorem dX1_leastOfAllTime_1 : decode cX1_leastOfAllTime 1 = .ok (.getfield 16, 3) := by decide +kernel
theorem dX1_leastOfAllTime_4 : decode cX1_leastOfAllTime 4 = .ok (.iload_n 1, 1) := by decide +kernel
theorem dX1_leastOfAllTime_5 : decode cX1_leastOfAllTime 5 = .ok (.iaload, 1) := by decide +kernel
theorem dX1_leastOfAllTime_6 : decode cX1_leastOfAllTime 6 = .ok (.ireturn, 1) := by decide +kernel
theorem dX2_init_0 : decode cX2_init 0 = .ok (.aload_n 0, 1) := by decide +kernel
theorem dX2_init_1 : decode cX2_init 1 = .ok (.invokespecial 1, 3) := by decide +kernel
theorem dX2_init_4 : decode cX2_init 4 = .ok (.aload_n 0, 1) := by decide +kernel
theorem dX2_init_5 : decode cX2_init 5 = .ok (.bipush 12, 2) := by decide +kernel
theorem dX2_init_7 : decode cX2_init 7 = .ok (.newarray .int, 2) := by decide +kernel
theorem dX2_init_9 : decode cX2_init 9 = .ok (.putfield 9, 3) := by decide +kernel
theorem dX2_init_12 : decode cX2_init 12 = .ok (.aload_n 0, 1) := by decide +kernel
theorem dX2_init_13 : decode cX2_init 13 = .ok (.bipush 12, 2) := by decide +kernel
theorem dX2_init_15 : decode cX2_init 15 = .ok (.anewarray 13, 3) := by decide +kernel
theorem dX2_init_18 : decode cX2_init 18 = .ok (.putfield 15, 3) := by decide +kernel
theorem dX2_init_21 : decode cX2_init 21 = .ok (.aload_n 0, 1) := by decide +kernel
theorem dX2_init_22 : decode cX2_init 22 = .ok (.new 19, 3) := by decide +kernel
theorem dX2_init_25 : decode cX2_init 25 = .ok (.dup, 1) := by decide +kernel
theorem dX2_init_26 : decode cX2_init 26 = .ok (.invokespecial 21, 3) := by decide +kernel
theorem dX2_init_29 : decode cX2_init 29 = .ok (.putfield 22, 3) := by decide +kernel
theorem dX2_init_32 : decode cX2_init 32 = .ok (.aload_n 0, 1) := by decide +kernel
theorem dX2_init_33 : decode cX2_init 33 = .ok (.iconst 0, 1) := by decide +kernel
theorem dX2_init_34 : decode cX2_init 34 = .ok (.putfield 26, 3) := by decide +kernel
theorem dX2_init_37 : decode cX2_init 37 = .ok (.aload_n 0, 1) := by decide +kernel
theorem dX2_init_38 : decode cX2_init 38 = .ok (.iconst 0, 1) := by decide +kernel
theorem dX2_init_39 : decode cX2_init 39 = .ok (.putfield 30, 3) := by decide +kernel
theorem dX2_init_42 : decode cX2_init 42 = .ok (.aload_n 0, 1) := by decide +kernel
theorem dX2_init_43 : decode cX2_init 43 = .ok (.iconst 0, 1) := by decide +kernel
theorem dX2_init_44 : decode cX2_init 44 = .ok (.putfield 33, 3) := by decide +kernel
theorem dX2_init_47 : decode cX2_init 47 = .ok (.iconst 0, 1) := by decide +kernel
theorem dX2_init_48 : decode cX2_init 48 = .ok (.istore_n 1, 1) := by decide +kernel
theorem dX2_init_49 : decode cX2_init 49 = .ok (.iload_n 1, 1) := by decide +kernel
theorem dX2_init_50 : decode cX2_init 50 = .ok (.bipush 12, 2) := by decide +kernel
theorem dX2_init_52 : decode cX2_init 52 = .ok (.if_icmp .ge 22, 3) := by decide +kernel
theorem dX2_init_55 : decode cX2_init 55 = .ok (.aload_n 0, 1) := by decide +kernel
theorem dX2_init_56 : decode cX2_init 56 = .ok (.getfield 15, 3) := by decide +kernel
theorem dX2_init_59 : decode cX2_init 59 = .ok (.iload_n 1, 1) := by decide +kernel
theorem dX2_init_60 : decode cX2_init 60 = .ok (.new 13, 3) := by decide +kernel
theorem dX2_init_63 : decode cX2_init 63 = .ok (.dup, 1) := by decide +kernel
theorem dX2_init_64 : decode cX2_init 64 = .ok (.invokespecial 36, 3) := by decide +kernel
theorem dX2_init_67 : decode cX2_init 67 = .ok (.aastore, 1) := by decide +kernel
theorem dX2_init_68 : decode cX2_init 68 = .ok (.iinc 1 1, 3) := by decide +kernel
theorem dX2_init_71 : decode cX2_init 71 = .ok (.goto (-22), 3) := by decide +kernel
theorem dX2_init_74 : decode cX2_init 74 = .ok (.return_, 1) := by decide +kernel
theorem dX2_setPrice_0 : decode cX2_setPrice 0 = .ok (.iload_n 1, 1) := by decide +kernel
theorem dX2_setPrice_1 : decode cX2_setPrice 1 = .ok (.invokestatic 37, 3) := by decide +kernel
theorem dX2_setPrice_4 : decode cX2_setPrice 4 = .ok (.iload_n 2, 1) := by decide +kernel
theorem dX2_setPrice_5 : decode cX2_setPrice 5 = .ok (.iconst 0, 1) := by decide +kernel
theorem dX2_setPrice_6 : decode cX2_setPrice 6 = .ok (.sipush 9999, 3) := by decide +kernel
theorem dX2_setPrice_9 : decode cX2_setPrice 9 = .ok (.invokestatic 41, 3) := by decide +kernel
theorem dX2_setPrice_12 : decode cX2_setPrice 12 = .ok (.aload_n 0, 1) := by decide +kernel
theorem dX2_setPrice_13 : decode cX2_setPrice 13 = .ok (.getfield 9, 3) := by decide +kernel
theorem dX2_setPrice_16 : decode cX2_setPrice 16 = .ok (.iload_n 1, 1) := by decide +kernel
theorem dX2_setPrice_17 : decode cX2_setPrice 17 = .ok (.iaload, 1) := by decide +kernel
theorem dX2_setPrice_18 : decode cX2_setPrice 18 = .ok (.iload_n 2, 1) := by decide +kernel
theorem dX2_setPrice_19 : decode cX2_setPrice 19 = .ok (.if_icmp .ne 5, 3) := by decide +kernel
theorem dX2_setPrice_22 : decode cX2_setPrice 22 = .ok (.iconst 0, 1) := by decide +kernel
theorem dX2_setPrice_23 : decode cX2_setPrice 23 = .ok (.ireturn, 1) := by decide +kernel
theorem dX2_setPrice_24 : decode cX2_setPrice 24 = .ok (.aload_n 0, 1) := by decide +kernel
theorem dX2_setPrice_25 : decode cX2_setPrice 25 = .ok (.getfield 9, 3) := by decide +kernel
theorem dX2_setPrice_28 : decode cX2_setPrice 28 = .ok (.iload_n 1, 1) := by decide +kernel
theorem dX2_setPrice_29 : decode cX2_setPrice 29 = .ok (.iload_n 2, 1) := by decide +kernel
theorem dX2_setPrice_30 : decode cX2_setPrice 30 = .ok (.iastore, 1) := by decide +kernel
theorem dX2_setPrice_31 : decode cX2_setPrice 31 = .ok (.iconst 0, 1) := by decide +kernel
theorem dX2_setPrice_32 : decode cX2_setPrice 32 = .ok (.istore_n 3, 1) := by decide +kernel
theorem dX2_setPrice_33 : decode cX2_setPrice 33 = .ok (.iconst 0, 1) := by decide +kernel
theorem dX2_setPrice_34 : decode cX2_setPrice 34 = .ok (.istore 4, 2) := by decide +kernel
theorem dX2_setPrice_36 : decode cX2_setPrice 36 = .ok (.iload 4, 2) := by decide +kernel
theorem dX2_setPrice_38 : decode cX2_setPrice 38 = .ok (.aload_n 0, 1) := by decide +kernel
theorem dX2_setPrice_39 : decode cX2_setPrice 39 = .ok (.getfield 26, 3) := by decide +kernel
theorem dX2_setPrice_42 : decode cX2_setPrice 42 = .ok (.if_icmp .ge 37, 3) := by decide +kernel
theorem dX2_setPrice_45 : decode cX2_setPrice 45 = .ok (.aload_n 0, 1) := by decide +kernel
theorem dX2_setPrice_46 : decode cX2_setPrice 46 = .ok (.getfield 15, 3) := by decide +kernel
theorem dX2_setPrice_49 : decode cX2_setPrice 49 = .ok (.iload 4, 2) := by decide +kernel
theorem dX2_setPrice_51 : decode cX2_setPrice 51 = .ok (.aaload, 1) := by decide +kernel
theorem dX2_setPrice_52 : decode cX2_setPrice 52 = .ok (.getfield 45, 3) := by decide +kernel
theorem dX2_setPrice_55 : decode cX2_setPrice 55 = .ok (.iload_n 1, 1) := by decide +kernel
theorem dX2_setPrice_56 : decode cX2_setPrice 56 = .ok (.if_icmp .ne 17, 3) := by decide +kernel
theorem dX2_setPrice_59 : decode cX2_setPrice 59 = .ok (.aload_n 0, 1) := by decide +kernel
theorem dX2_setPrice_60 : decode cX2_setPrice 60 = .ok (.aload_n 0, 1) := by decide +kernel
theorem dX2_setPrice_61 : decode cX2_setPrice 61 = .ok (.getfield 15, 3) := by decide +kernel
theorem dX2_setPrice_64 : decode cX2_setPrice 64 = .ok (.iload 4, 2) := by decide +kernel
theorem dX2_setPrice_66 : decode cX2_setPrice 66 = .ok (.aaload, 1) := by decide +kernel
theorem dX2_setPrice_67 : decode cX2_setPrice 67 = .ok (.invokevirtual 48, 3) := by decide +kernel
theorem dX2_setPrice_70 : decode cX2_setPrice 70 = .ok (.iinc 3 1, 3) := by decide +kernel
theorem dX2_setPrice_73 : decode cX2_setPrice 73 = .ok (.iinc 4 1, 3) := by decide +kernel
theorem dX2_setPrice_76 : decode cX2_setPrice 76 = .ok (.goto (-40), 3) := by decide +kernel
theorem dX2_setPrice_79 : decode cX2_setPrice 79 = .ok (.iload_n 3, 1) := by decide +kernel
theorem dX2_setPrice_80 : decode cX2_setPrice 80 = .ok (.ireturn, 1) := by decide +kernel
theorem dX2_price_0 : decode cX2_price 0 = .ok (.iload_n 1, 1) := by decide +kernel
theorem dX2_price_1 : decode cX2_price 1 = .ok (.invokestatic 37, 3) := by decide +kernel
theorem dX2_price_4 : decode cX2_price 4 = .ok (.aload_n 0, 1) := by decide +kernel
theorem dX2_price_5 : decode cX2_price 5 = .ok (.getfield 9, 3) := by decide +kernel
theorem dX2_price_8 : decode cX2_price 8 = .ok (.iload_n 1, 1) := by decide +kernel
theorem dX2_price_9 : decode cX2_price 9 = .ok (.iaload, 1) := by decide +kernel
theorem dX2_price_10 : decode cX2_price 10 = .ok (.ireturn, 1) := by decide +kernel
theorem dX2_hang_0 : decode cX2_hang 0 = .ok (.iload_n 1, 1) := by decide +kernel
theorem dX2_hang_1 : decode cX2_hang 1 = .ok (.invokestatic 37, 3) := by decide +kernel
theorem dX2_hang_4 : decode cX2_hang 4 = .ok (.aload_n 0, 1) := by decide +kernel
theorem dX2_hang_5 : decode cX2_hang 5 = .ok (.getfield 26, 3) := by decide +kernel
theorem dX2_hang_8 : decode cX2_hang 8 = .ok (.bipush 12, 2) := by decide +kernel
theorem dX2_hang_10 : decode cX2_hang 10 = .ok (.if_icmp .lt 13, 3) := by decide +kernel
theorem dX2_hang_13 : decode cX2_hang 13 = .ok (.new 52, 3) := by decide +kernel
theorem dX2_hang_16 : decode cX2_hang 16 = .ok (.dup, 1) := by decide +kernel
theorem dX2_hang_17 : decode cX2_hang 17 = .ok (.ldc 54, 2) := by decide +kernel
theorem dX2_hang_19 : decode cX2_hang 19 = .ok (.invokespecial 56, 3) := by decide +kernel
theorem dX2_hang_22 : decode cX2_hang 22 = .ok (.athrow, 1) := by decide +kernel
theorem dX2_hang_23 : decode cX2_hang 23 = .ok (.aload_n 0, 1) := by decide +kernel
theorem dX2_hang_24 : decode cX2_hang 24 = .ok (.getfield 15, 3) := by decide +kernel
theorem dX2_hang_27 : decode cX2_hang 27 = .ok (.aload_n 0, 1) := by decide +kernel
theorem dX2_hang_28 : decode cX2_hang 28 = .ok (.getfield 26, 3) := by decide +kernel
theorem dX2_hang_31 : decode cX2_hang 31 = .ok (.aaload, 1) := by decide +kernel
theorem dX2_hang_32 : decode cX2_hang 32 = .ok (.iload_n 1, 1) := by decide +kernel
theorem dX2_hang_33 : decode cX2_hang 33 = .ok (.putfield 45, 3) := by decide +kernel
theorem dX2_hang_36 : decode cX2_hang 36 = .ok (.aload_n 0, 1) := by decide +kernel
theorem dX2_hang_37 : decode cX2_hang 37 = .ok (.getfield 15, 3) := by decide +kernel
theorem dX2_hang_40 : decode cX2_hang 40 = .ok (.aload_n 0, 1) := by decide +kernel
theorem dX2_hang_41 : decode cX2_hang 41 = .ok (.getfield 26, 3) := by decide +kernel
theorem dX2_hang_44 : decode cX2_hang 44 = .ok (.aaload, 1) := by decide +kernel
theorem dX2_hang_45 : decode cX2_hang 45 = .ok (.aload_n 0, 1) := by decide +kernel
theorem dX2_hang_46 : decode cX2_hang 46 = .ok (.getfield 9, 3) := by decide +kernel
theorem dX2_hang_49 : decode cX2_hang 49 = .ok (.iload_n 1, 1) := by decide +kernel
theorem dX2_hang_50 : decode cX2_hang 50 = .ok (.iaload, 1) := by decide +kernel
theorem dX2_hang_51 : decode cX2_hang 51 = .ok (.putfield 59, 3) := by decide +kernel
theorem dX2_hang_54 : decode cX2_hang 54 = .ok (.aload_n 0, 1) := by decide +kernel
theorem dX2_hang_55 : decode cX2_hang 55 = .ok (.dup, 1) := by decide +kernel
theorem dX2_hang_56 : decode cX2_hang 56 = .ok (.getfield 26, 3) := by decide +kernel
theorem dX2_hang_59 : decode cX2_hang 59 = .ok (.iconst 1, 1) := by decide +kernel
theorem dX2_hang_60 : decode cX2_hang 60 = .ok (.iadd, 1) := by decide +kernel
theorem dX2_hang_61 : decode cX2_hang 61 = .ok (.putfield 26, 3) := by decide +kernel
theorem dX2_hang_64 : decode cX2_hang 64 = .ok (.aload_n 0, 1) := by decide +kernel
theorem dX2_hang_65 : decode cX2_hang 65 = .ok (.getfield 26, 3) := by decide +kernel
theorem dX2_hang_68 : decode cX2_hang 68 = .ok (.iconst 1, 1) := by decide +kernel
theorem dX2_hang_69 : decode cX2_hang 69 = .ok (.isub, 1) := by decide +kernel
theorem dX2_hang_70 : decode cX2_hang 70 = .ok (.ireturn, 1) := by decide +kernel
theorem dX2_carry_0 : decode cX2_carry 0 = .ok (.aload_n 0, 1) := by decide +kernel
theorem dX2_carry_1 : decode cX2_carry 1 = .ok (.iload_n 1, 1) := by decide +kernel
theorem dX2_carry_2 : decode cX2_carry 2 = .ok (.invokevirtual 62, 3) := by decide +kernel
theorem dX2_carry_5 : decode cX2_carry 5 = .ok (.astore_n 3, 1) := by decide +kernel
theorem dX2_carry_6 : decode cX2_carry 6 = .ok (.iload_n 2, 1) := by decide +kernel
theorem dX2_carry_7 : decode cX2_carry 7 = .ok (.invokestatic 37, 3) := by decide +kernel
theorem dX2_carry_10 : decode cX2_carry 10 = .ok (.aload_n 3, 1) := by decide +kernel
theorem dX2_carry_11 : decode cX2_carry 11 = .ok (.getfield 45, 3) := by decide +kernel
theorem dX2_carry_14 : decode cX2_carry 14 = .ok (.iload_n 2, 1) := by decide +kernel
theorem dX2_carry_15 : decode cX2_carry 15 = .ok (.if_icmp .ne 13, 3) := by decide +kernel
theorem dX2_carry_18 : decode cX2_carry 18 = .ok (.new 52, 3) := by decide +kernel
theorem dX2_carry_21 : decode cX2_carry 21 = .ok (.dup, 1) := by decide +kernel
theorem dX2_carry_22 : decode cX2_carry 22 = .ok (.ldc 66, 2) := by decide +kernel
theorem dX2_carry_24 : decode cX2_carry 24 = .ok (.invokespecial 56, 3) := by decide +kernel
theorem dX2_carry_27 : decode cX2_carry 27 = .ok (.athrow, 1) := by decide +kernel
theorem dX2_carry_28 : decode cX2_carry 28 = .ok (.aload_n 3, 1) := by decide +kernel
theorem dX2_carry_29 : decode cX2_carry 29 = .ok (.iload_n 2, 1) := by decide +kernel
theorem dX2_carry_30 : decode cX2_carry 30 = .ok (.putfield 45, 3) := by decide +kernel
theorem dX2_carry_33 : decode cX2_carry 33 = .ok (.aload_n 3, 1) := by decide +kernel
theorem dX2_carry_34 : decode cX2_carry 34 = .ok (.iconst (-1), 1) := by decide +kernel
theorem dX2_carry_35 : decode cX2_carry 35 = .ok (.putfield 68, 3) := by decide +kernel
theorem dX2_carry_38 : decode cX2_carry 38 = .ok (.aload_n 3, 1) := by decide +kernel
theorem dX2_carry_39 : decode cX2_carry 39 = .ok (.getfield 59, 3) := by decide +kernel
theorem dX2_carry_42 : decode cX2_carry 42 = .ok (.aload_n 0, 1) := by decide +kernel
theorem dX2_carry_43 : decode cX2_carry 43 = .ok (.getfield 9, 3) := by decide +kernel
theorem dX2_carry_46 : decode cX2_carry 46 = .ok (.iload_n 2, 1) := by decide +kernel
theorem dX2_carry_47 : decode cX2_carry 47 = .ok (.iaload, 1) := by decide +kernel
theorem dX2_carry_48 : decode cX2_carry 48 = .ok (.if_icmp .ne 5, 3) := by decide +kernel
theorem dX2_carry_51 : decode cX2_carry 51 = .ok (.iconst 0, 1) := by decide +kernel
theorem dX2_carry_52 : decode cX2_carry 52 = .ok (.ireturn, 1) := by decide +kernel
theorem dX2_carry_53 : decode cX2_carry 53 = .ok (.aload_n 0, 1) := by decide +kernel
theorem dX2_carry_54 : decode cX2_carry 54 = .ok (.aload_n 3, 1) := by decide +kernel
theorem dX2_carry_55 : decode cX2_carry 55 = .ok (.invokevirtual 48, 3) := by decide +kernel
theorem dX2_carry_58 : decode cX2_carry 58 = .ok (.iconst 1, 1) := by decide +kernel
theorem dX2_carry_59 : decode cX2_carry 59 = .ok (.ireturn, 1) := by decide +kernel
theorem dX2_charge_0 : decode cX2_charge 0 = .ok (.aload_n 0, 1) := by decide +kernel
theorem dX2_charge_1 : decode cX2_charge 1 = .ok (.iload_n 1, 1) := by decide +kernel
theorem dX2_charge_2 : decode cX2_charge 2 = .ok (.invokevirtual 62, 3) := by decide +kernel
theorem dX2_charge_5 : decode cX2_charge 5 = .ok (.astore_n 2, 1) := by decide +kernel
theorem dX2_charge_6 : decode cX2_charge 6 = .ok (.aload_n 2, 1) := by decide +kernel
theorem dX2_charge_7 : decode cX2_charge 7 = .ok (.getfield 71, 3) := by decide +kernel
theorem dX2_charge_10 : decode cX2_charge 10 = .ok (.istore_n 3, 1) := by decide +kernel
theorem dX2_charge_11 : decode cX2_charge 11 = .ok (.aload_n 2, 1) := by decide +kernel
theorem dX2_charge_12 : decode cX2_charge 12 = .ok (.sipush 1000, 3) := by decide +kernel
theorem dX2_charge_15 : decode cX2_charge 15 = .ok (.putfield 71, 3) := by decide +kernel
theorem dX2_charge_18 : decode cX2_charge 18 = .ok (.iload_n 3, 1) := by decide +kernel
theorem dX2_charge_19 : decode cX2_charge 19 = .ok (.ireturn, 1) := by decide +kernel
theorem dX2_loseSendings_0 : decode cX2_loseSendings 0 = .ok (.aload_n 0, 1) := by decide +kernel
theorem dX2_loseSendings_1 : decode cX2_loseSendings 1 = .ok (.iload_n 1, 1) := by decide +kernel
theorem dX2_loseSendings_2 : decode cX2_loseSendings 2 = .ok (.invokevirtual 62, 3) := by decide +kernel
theorem dX2_loseSendings_5 : decode cX2_loseSendings 5 = .ok (.astore_n 3, 1) := by decide +kernel
theorem dX2_loseSendings_6 : decode cX2_loseSendings 6 = .ok (.iload_n 2, 1) := by decide +kernel
theorem dX2_loseSendings_7 : decode cX2_loseSendings 7 = .ok (.iconst 0, 1) := by decide +kernel
theorem dX2_loseSendings_8 : decode cX2_loseSendings 8 = .ok (.bipush 20, 2) := by decide +kernel
theorem dX2_loseSendings_10 : decode cX2_loseSendings 10 = .ok (.invokestatic 41, 3) := by decide +kernel
theorem dX2_loseSendings_13 : decode cX2_loseSendings 13 = .ok (.aload_n 3, 1) := by decide +kernel
theorem dX2_loseSendings_14 : decode cX2_loseSendings 14 = .ok (.getfield 74, 3) := by decide +kernel
theorem dX2_loseSendings_17 : decode cX2_loseSendings 17 = .ok (.istore 4, 2) := by decide +kernel
theorem dX2_loseSendings_19 : decode cX2_loseSendings 19 = .ok (.aload_n 3, 1) := by decide +kernel
theorem dX2_loseSendings_20 : decode cX2_loseSendings 20 = .ok (.iload_n 2, 1) := by decide +kernel
theorem dX2_loseSendings_21 : decode cX2_loseSendings 21 = .ok (.putfield 74, 3) := by decide +kernel
theorem dX2_loseSendings_24 : decode cX2_loseSendings 24 = .ok (.iload 4, 2) := by decide +kernel
theorem dX2_loseSendings_26 : decode cX2_loseSendings 26 = .ok (.ireturn, 1) := by decide +kernel
theorem dX2_loseAnswers_0 : decode cX2_loseAnswers 0 = .ok (.aload_n 0, 1) := by decide +kernel
theorem dX2_loseAnswers_1 : decode cX2_loseAnswers 1 = .ok (.iload_n 1, 1) := by decide +kernel
theorem dX2_loseAnswers_2 : decode cX2_loseAnswers 2 = .ok (.invokevirtual 62, 3) := by decide +kernel
theorem dX2_loseAnswers_5 : decode cX2_loseAnswers 5 = .ok (.astore_n 3, 1) := by decide +kernel
theorem dX2_loseAnswers_6 : decode cX2_loseAnswers 6 = .ok (.iload_n 2, 1) := by decide +kernel
theorem dX2_loseAnswers_7 : decode cX2_loseAnswers 7 = .ok (.iconst 0, 1) := by decide +kernel
theorem dX2_loseAnswers_8 : decode cX2_loseAnswers 8 = .ok (.bipush 20, 2) := by decide +kernel
theorem dX2_loseAnswers_10 : decode cX2_loseAnswers 10 = .ok (.invokestatic 41, 3) := by decide +kernel
theorem dX2_loseAnswers_13 : decode cX2_loseAnswers 13 = .ok (.aload_n 3, 1) := by decide +kernel
theorem dX2_loseAnswers_14 : decode cX2_loseAnswers 14 = .ok (.getfield 77, 3) := by decide +kernel
theorem dX2_loseAnswers_17 : decode cX2_loseAnswers 17 = .ok (.istore 4, 2) := by decide +kernel
theorem dX2_loseAnswers_19 : decode cX2_loseAnswers 19 = .ok (.aload_n 3, 1) := by decide +kernel
theorem dX2_loseAnswers_20 : decode cX2_loseAnswers 20 = .ok (.iload_n 2, 1) := by decide +kernel
theorem dX2_loseAnswers_21 : decode cX2_loseAnswers 21 = .ok (.putfield 77, 3) := by decide +kernel
theorem dX2_loseAnswers_24 : decode cX2_loseAnswers 24 = .ok (.iload 4, 2) := by decide +kernel
theorem dX2_loseAnswers_26 : decode cX2_loseAnswers 26 = .ok (.ireturn, 1) := by decide +kernel
theorem dX2_pass_0 : decode cX2_pass 0 = .ok (.iload_n 1, 1) := by decide +kernel
theorem dX2_pass_1 : decode cX2_pass 1 = .ok (.iconst 1, 1) := by decide +kernel
theorem dX2_pass_2 : decode cX2_pass 2 = .ok (.sipush 200, 3) := by decide +kernel
theorem dX2_pass_5 : decode cX2_pass 5 = .ok (.invokestatic 41, 3) := by decide +kernel
theorem dX2_pass_8 : decode cX2_pass 8 = .ok (.aload_n 0, 1) := by decide +kernel
theorem dX2_pass_9 : decode cX2_pass 9 = .ok (.getfield 30, 3) := by decide +kernel
theorem dX2_pass_12 : decode cX2_pass 12 = .ok (.iload_n 1, 1) := by decide +kernel
theorem dX2_pass_13 : decode cX2_pass 13 = .ok (.iadd, 1) := by decide +kernel
theorem dX2_pass_14 : decode cX2_pass 14 = .ok (.sipush 10000, 3) := by decide +kernel
theorem dX2_pass_17 : decode cX2_pass 17 = .ok (.if_icmp .le 13, 3) := by decide +kernel
theorem dX2_pass_20 : decode cX2_pass 20 = .ok (.new 52, 3) := by decide +kernel
theorem dX2_pass_23 : decode cX2_pass 23 = .ok (.dup, 1) := by decide +kernel
theorem dX2_pass_24 : decode cX2_pass 24 = .ok (.ldc 80, 2) := by decide +kernel
theorem dX2_pass_26 : decode cX2_pass 26 = .ok (.invokespecial 56, 3) := by decide +kernel
theorem dX2_pass_29 : decode cX2_pass 29 = .ok (.athrow, 1) := by decide +kernel
theorem dX2_pass_30 : decode cX2_pass 30 = .ok (.iconst 0, 1) := by decide +kernel
theorem dX2_pass_31 : decode cX2_pass 31 = .ok (.istore_n 2, 1) := by decide +kernel
theorem dX2_pass_32 : decode cX2_pass 32 = .ok (.iconst 0, 1) := by decide +kernel
theorem dX2_pass_33 : decode cX2_pass 33 = .ok (.istore_n 3, 1) := by decide +kernel
theorem dX2_pass_34 : decode cX2_pass 34 = .ok (.iload_n 3, 1) := by decide +kernel
theorem dX2_pass_35 : decode cX2_pass 35 = .ok (.iload_n 1, 1) := by decide +kernel
theorem dX2_pass_36 : decode cX2_pass 36 = .ok (.if_icmp .ge 16, 3) := by decide +kernel
theorem dX2_pass_39 : decode cX2_pass 39 = .ok (.iload_n 2, 1) := by decide +kernel
theorem dX2_pass_40 : decode cX2_pass 40 = .ok (.aload_n 0, 1) := by decide +kernel
theorem dX2_pass_41 : decode cX2_pass 41 = .ok (.invokevirtual 82, 3) := by decide +kernel
theorem dX2_pass_44 : decode cX2_pass 44 = .ok (.iadd, 1) := by decide +kernel
theorem dX2_pass_45 : decode cX2_pass 45 = .ok (.istore_n 2, 1) := by decide +kernel
theorem dX2_pass_46 : decode cX2_pass 46 = .ok (.iinc 3 1, 3) := by decide +kernel
theorem dX2_pass_49 : decode cX2_pass 49 = .ok (.goto (-15), 3) := by decide +kernel
theorem dX2_pass_52 : decode cX2_pass 52 = .ok (.iload_n 2, 1) := by decide +kernel
theorem dX2_pass_53 : decode cX2_pass 53 = .ok (.ireturn, 1) := by decide +kernel
theorem dX2_time_0 : decode cX2_time 0 = .ok (.aload_n 0, 1) := by decide +kernel
theorem dX2_time_1 : decode cX2_time 1 = .ok (.getfield 30, 3) := by decide +kernel
theorem dX2_time_4 : decode cX2_time 4 = .ok (.ireturn, 1) := by decide +kernel
theorem dX2_order_0 : decode cX2_order 0 = .ok (.aload_n 0, 1) := by decide +kernel
theorem dX2_order_1 : decode cX2_order 1 = .ok (.iload_n 1, 1) := by decide +kernel
theorem dX2_order_2 : decode cX2_order 2 = .ok (.invokevirtual 62, 3) := by decide +kernel
theorem dX2_order_5 : decode cX2_order 5 = .ok (.getfield 68, 3) := by decide +kernel
theorem dX2_order_8 : decode cX2_order 8 = .ok (.ireturn, 1) := by decide +kernel
theorem dX2_orders_0 : decode cX2_orders 0 = .ok (.iconst 0, 1) := by decide +kernel
theorem dX2_orders_1 : decode cX2_orders 1 = .ok (.istore_n 1, 1) := by decide +kernel
theorem dX2_orders_2 : decode cX2_orders 2 = .ok (.iconst 0, 1) := by decide +kernel
theorem dX2_orders_3 : decode cX2_orders 3 = .ok (.istore_n 2, 1) := by decide +kernel
theorem dX2_orders_4 : decode cX2_orders 4 = .ok (.iload_n 2, 1) := by decide +kernel
theorem dX2_orders_5 : decode cX2_orders 5 = .ok (.aload_n 0, 1) := by decide +kernel
theorem dX2_orders_6 : decode cX2_orders 6 = .ok (.getfield 26, 3) := by decide +kernel
theorem dX2_orders_9 : decode cX2_orders 9 = .ok (.if_icmp .ge 25, 3) := by decide +kernel
theorem dX2_orders_12 : decode cX2_orders 12 = .ok (.aload_n 0, 1) := by decide +kernel
theorem dX2_orders_13 : decode cX2_orders 13 = .ok (.getfield 15, 3) := by decide +kernel
theorem dX2_orders_16 : decode cX2_orders 16 = .ok (.iload_n 2, 1) := by decide +kernel
theorem dX2_orders_17 : decode cX2_orders 17 = .ok (.aaload, 1) := by decide +kernel
theorem dX2_orders_18 : decode cX2_orders 18 = .ok (.getfield 68, 3) := by decide +kernel
theorem dX2_orders_21 : decode cX2_orders 21 = .ok (.iconst (-1), 1) := by decide +kernel
theorem dX2_orders_22 : decode cX2_orders 22 = .ok (.if_icmp .eq 6, 3) := by decide +kernel
theorem dX2_orders_25 : decode cX2_orders 25 = .ok (.iinc 1 1, 3) := by decide +kernel
theorem dX2_orders_28 : decode cX2_orders 28 = .ok (.iinc 2 1, 3) := by decide +kernel
theorem dX2_orders_31 : decode cX2_orders 31 = .ok (.goto (-27), 3) := by decide +kernel
theorem dX2_orders_34 : decode cX2_orders 34 = .ok (.iload_n 1, 1) := by decide +kernel
theorem dX2_orders_35 : decode cX2_orders 35 = .ok (.ireturn, 1) := by decide +kernel
theorem dX2_nextToSend_0 : decode cX2_nextToSend 0 = .ok (.iconst (-1), 1) := by decide +kernel
theorem dX2_nextToSend_1 : decode cX2_nextToSend 1 = .ok (.istore_n 1, 1) := by decide +kernel
theorem dX2_nextToSend_2 : decode cX2_nextToSend 2 = .ok (.iconst 0, 1) := by decide +kernel
theorem dX2_nextToSend_3 : decode cX2_nextToSend 3 = .ok (.istore_n 2, 1) := by decide +kernel
theorem dX2_nextToSend_4 : decode cX2_nextToSend 4 = .ok (.iload_n 2, 1) := by decide +kernel
theorem dX2_nextToSend_5 : decode cX2_nextToSend 5 = .ok (.aload_n 0, 1) := by decide +kernel
theorem dX2_nextToSend_6 : decode cX2_nextToSend 6 = .ok (.getfield 26, 3) := by decide +kernel
theorem dX2_nextToSend_9 : decode cX2_nextToSend 9 = .ok (.if_icmp .ge 50, 3) := by decide +kernel
theorem dX2_nextToSend_12 : decode cX2_nextToSend 12 = .ok (.aload_n 0, 1) := by decide +kernel
theorem dX2_nextToSend_13 : decode cX2_nextToSend 13 = .ok (.getfield 15, 3) := by decide +kernel
theorem dX2_nextToSend_16 : decode cX2_nextToSend 16 = .ok (.iload_n 2, 1) := by decide +kernel
theorem dX2_nextToSend_17 : decode cX2_nextToSend 17 = .ok (.aaload, 1) := by decide +kernel
theorem dX2_nextToSend_18 : decode cX2_nextToSend 18 = .ok (.aload_n 0, 1) := by decide +kernel
theorem dX2_nextToSend_19 : decode cX2_nextToSend 19 = .ok (.getfield 30, 3) := by decide +kernel
theorem dX2_nextToSend_22 : decode cX2_nextToSend 22 = .ok (.invokevirtual 86, 3) := by decide +kernel
theorem dX2_nextToSend_25 : decode cX2_nextToSend 25 = .ok (.ifCond .eq 28, 3) := by decide +kernel
theorem dX2_nextToSend_28 : decode cX2_nextToSend 28 = .ok (.iload_n 1, 1) := by decide +kernel
theorem dX2_nextToSend_29 : decode cX2_nextToSend 29 = .ok (.iconst (-1), 1) := by decide +kernel
theorem dX2_nextToSend_30 : decode cX2_nextToSend 30 = .ok (.if_icmp .eq 21, 3) := by decide +kernel
theorem dX2_nextToSend_33 : decode cX2_nextToSend 33 = .ok (.aload_n 0, 1) := by decide +kernel
theorem dX2_nextToSend_34 : decode cX2_nextToSend 34 = .ok (.getfield 15, 3) := by decide +kernel
theorem dX2_nextToSend_37 : decode cX2_nextToSend 37 = .ok (.iload_n 2, 1) := by decide +kernel
theorem dX2_nextToSend_38 : decode cX2_nextToSend 38 = .ok (.aaload, 1) := by decide +kernel
theorem dX2_nextToSend_39 : decode cX2_nextToSend 39 = .ok (.aload_n 0, 1) := by decide +kernel
theorem dX2_nextToSend_40 : decode cX2_nextToSend 40 = .ok (.getfield 15, 3) := by decide +kernel
theorem dX2_nextToSend_43 : decode cX2_nextToSend 43 = .ok (.iload_n 1, 1) := by decide +kernel
theorem dX2_nextToSend_44 : decode cX2_nextToSend 44 = .ok (.aaload, 1) := by decide +kernel
theorem dX2_nextToSend_45 : decode cX2_nextToSend 45 = .ok (.invokevirtual 90, 3) := by decide +kernel
theorem dX2_nextToSend_48 : decode cX2_nextToSend 48 = .ok (.ifCond .eq 5, 3) := by decide +kernel
theorem dX2_nextToSend_51 : decode cX2_nextToSend 51 = .ok (.iload_n 2, 1) := by decide +kernel
theorem dX2_nextToSend_52 : decode cX2_nextToSend 52 = .ok (.istore_n 1, 1) := by decide +kernel
theorem dX2_nextToSend_53 : decode cX2_nextToSend 53 = .ok (.iinc 2 1, 3) := by decide +kernel
theorem dX2_nextToSend_56 : decode cX2_nextToSend 56 = .ok (.goto (-52), 3) := by decide +kernel
theorem dX2_nextToSend_59 : decode cX2_nextToSend 59 = .ok (.iload_n 1, 1) := by decide +kernel
theorem dX2_nextToSend_60 : decode cX2_nextToSend 60 = .ok (.ireturn, 1) := by decide +kernel
theorem dX2_shown_0 : decode cX2_shown 0 = .ok (.aload_n 0, 1) := by decide +kernel
theorem dX2_shown_1 : decode cX2_shown 1 = .ok (.iload_n 1, 1) := by decide +kernel
theorem dX2_shown_2 : decode cX2_shown 2 = .ok (.invokevirtual 62, 3) := by decide +kernel
theorem dX2_shown_5 : decode cX2_shown 5 = .ok (.getfield 59, 3) := by decide +kernel
theorem dX2_shown_8 : decode cX2_shown 8 = .ok (.ireturn, 1) := by decide +kernel
theorem dX2_ghosts_0 : decode cX2_ghosts 0 = .ok (.aload_n 0, 1) := by decide +kernel
theorem dX2_ghosts_1 : decode cX2_ghosts 1 = .ok (.iload_n 1, 1) := by decide +kernel
theorem dX2_ghosts_2 : decode cX2_ghosts 2 = .ok (.invokevirtual 62, 3) := by decide +kernel
theorem dX2_ghosts_5 : decode cX2_ghosts 5 = .ok (.getfield 94, 3) := by decide +kernel
theorem dX2_ghosts_8 : decode cX2_ghosts 8 = .ok (.ireturn, 1) := by decide +kernel
theorem dX2_battery_0 : decode cX2_battery 0 = .ok (.aload_n 0, 1) := by decide +kernel
theorem dX2_battery_1 : decode cX2_battery 1 = .ok (.iload_n 1, 1) := by decide +kernel
theorem dX2_battery_2 : decode cX2_battery 2 = .ok (.invokevirtual 62, 3) := by decide +kernel
theorem dX2_battery_5 : decode cX2_battery 5 = .ok (.getfield 71, 3) := by decide +kernel
theorem dX2_battery_8 : decode cX2_battery 8 = .ok (.ireturn, 1) := by decide +kernel
theorem dX2_lies_0 : decode cX2_lies 0 = .ok (.iconst 0, 1) := by decide +kernel
theorem dX2_lies_1 : decode cX2_lies 1 = .ok (.istore_n 1, 1) := by decide +kernel
theorem dX2_lies_2 : decode cX2_lies 2 = .ok (.iconst 0, 1) := by decide +kernel
theorem dX2_lies_3 : decode cX2_lies 3 = .ok (.istore_n 2, 1) := by decide +kernel
theorem dX2_lies_4 : decode cX2_lies 4 = .ok (.iload_n 2, 1) := by decide +kernel
theorem dX2_lies_5 : decode cX2_lies 5 = .ok (.aload_n 0, 1) := by decide +kernel
theorem dX2_lies_6 : decode cX2_lies 6 = .ok (.getfield 26, 3) := by decide +kernel
theorem dX2_lies_9 : decode cX2_lies 9 = .ok (.if_icmp .ge 41, 3) := by decide +kernel
theorem dX2_lies_12 : decode cX2_lies 12 = .ok (.aload_n 0, 1) := by decide +kernel
theorem dX2_lies_13 : decode cX2_lies 13 = .ok (.getfield 15, 3) := by decide +kernel
theorem dX2_lies_16 : decode cX2_lies 16 = .ok (.iload_n 2, 1) := by decide +kernel
theorem dX2_lies_17 : decode cX2_lies 17 = .ok (.aaload, 1) := by decide +kernel
theorem dX2_lies_18 : decode cX2_lies 18 = .ok (.getfield 59, 3) := by decide +kernel
theorem dX2_lies_21 : decode cX2_lies 21 = .ok (.aload_n 0, 1) := by decide +kernel
theorem dX2_lies_22 : decode cX2_lies 22 = .ok (.getfield 9, 3) := by decide +kernel
theorem dX2_lies_25 : decode cX2_lies 25 = .ok (.aload_n 0, 1) := by decide +kernel
theorem dX2_lies_26 : decode cX2_lies 26 = .ok (.getfield 15, 3) := by decide +kernel
theorem dX2_lies_29 : decode cX2_lies 29 = .ok (.iload_n 2, 1) := by decide +kernel
theorem dX2_lies_30 : decode cX2_lies 30 = .ok (.aaload, 1) := by decide +kernel
theorem dX2_lies_31 : decode cX2_lies 31 = .ok (.getfield 45, 3) := by decide +kernel
theorem dX2_lies_34 : decode cX2_lies 34 = .ok (.iaload, 1) := by decide +kernel
theorem dX2_lies_35 : decode cX2_lies 35 = .ok (.if_icmp .ge 9, 3) := by decide +kernel
theorem dX2_lies_38 : decode cX2_lies 38 = .ok (.iload_n 1, 1) := by decide +kernel
theorem dX2_lies_39 : decode cX2_lies 39 = .ok (.iconst 1, 1) := by decide +kernel
theorem dX2_lies_40 : decode cX2_lies 40 = .ok (.iload_n 2, 1) := by decide +kernel
theorem dX2_lies_41 : decode cX2_lies 41 = .ok (.ishl, 1) := by decide +kernel
theorem dX2_lies_42 : decode cX2_lies 42 = .ok (.ior, 1) := by decide +kernel
theorem dX2_lies_43 : decode cX2_lies 43 = .ok (.istore_n 1, 1) := by decide +kernel
theorem dX2_lies_44 : decode cX2_lies 44 = .ok (.iinc 2 1, 3) := by decide +kernel
theorem dX2_lies_47 : decode cX2_lies 47 = .ok (.goto (-43), 3) := by decide +kernel
theorem dX2_lies_50 : decode cX2_lies 50 = .ok (.iload_n 1, 1) := by decide +kernel
theorem dX2_lies_51 : decode cX2_lies 51 = .ok (.ireturn, 1) := by decide +kernel
theorem dX2_asked_0 : decode cX2_asked 0 = .ok (.iload_n 1, 1) := by decide +kernel
theorem dX2_asked_1 : decode cX2_asked 1 = .ok (.invokestatic 37, 3) := by decide +kernel
theorem dX2_asked_4 : decode cX2_asked 4 = .ok (.aload_n 0, 1) := by decide +kernel
theorem dX2_asked_5 : decode cX2_asked 5 = .ok (.iload_n 1, 1) := by decide +kernel
theorem dX2_asked_6 : decode cX2_asked 6 = .ok (.invokevirtual 97, 3) := by decide +kernel
theorem dX2_asked_9 : decode cX2_asked 9 = .ok (.aload_n 0, 1) := by decide +kernel
theorem dX2_asked_10 : decode cX2_asked 10 = .ok (.getfield 22, 3) := by decide +kernel
theorem dX2_asked_13 : decode cX2_asked 13 = .ok (.iload_n 1, 1) := by decide +kernel
theorem dX2_asked_14 : decode cX2_asked 14 = .ok (.invokevirtual 101, 3) := by decide +kernel
theorem dX2_asked_17 : decode cX2_asked 17 = .ok (.invokestatic 104, 3) := by decide +kernel
theorem dX2_asked_20 : decode cX2_asked 20 = .ok (.istore_n 2, 1) := by decide +kernel
theorem dX2_asked_21 : decode cX2_asked 21 = .ok (.aload_n 0, 1) := by decide +kernel
theorem dX2_asked_22 : decode cX2_asked 22 = .ok (.getfield 9, 3) := by decide +kernel
theorem dX2_asked_25 : decode cX2_asked 25 = .ok (.iload_n 1, 1) := by decide +kernel
theorem dX2_asked_26 : decode cX2_asked 26 = .ok (.iaload, 1) := by decide +kernel
theorem dX2_asked_27 : decode cX2_asked 27 = .ok (.iload_n 2, 1) := by decide +kernel
theorem dX2_asked_28 : decode cX2_asked 28 = .ok (.invokestatic 104, 3) := by decide +kernel
theorem dX2_asked_31 : decode cX2_asked 31 = .ok (.ireturn, 1) := by decide +kernel
theorem dX2_leastEver_0 : decode cX2_leastEver 0 = .ok (.iload_n 1, 1) := by decide +kernel
theorem dX2_leastEver_1 : decode cX2_leastEver 1 = .ok (.invokestatic 37, 3) := by decide +kernel
theorem dX2_leastEver_4 : decode cX2_leastEver 4 = .ok (.aload_n 0, 1) := by decide +kernel
theorem dX2_leastEver_5 : decode cX2_leastEver 5 = .ok (.iload_n 1, 1) := by decide +kernel
theorem dX2_leastEver_6 : decode cX2_leastEver 6 = .ok (.invokevirtual 97, 3) := by decide +kernel
theorem dX2_leastEver_9 : decode cX2_leastEver 9 = .ok (.aload_n 0, 1) := by decide +kernel
theorem dX2_leastEver_10 : decode cX2_leastEver 10 = .ok (.getfield 22, 3) := by decide +kernel
theorem dX2_leastEver_13 : decode cX2_leastEver 13 = .ok (.iload_n 1, 1) := by decide +kernel
theorem dX2_leastEver_14 : decode cX2_leastEver 14 = .ok (.invokevirtual 110, 3) := by decide +kernel
theorem dX2_leastEver_17 : decode cX2_leastEver 17 = .ok (.invokestatic 104, 3) := by decide +kernel
theorem dX2_leastEver_20 : decode cX2_leastEver 20 = .ok (.istore_n 2, 1) := by decide +kernel
theorem dX2_leastEver_21 : decode cX2_leastEver 21 = .ok (.iload_n 2, 1) := by decide +kernel
theorem dX2_leastEver_22 : decode cX2_leastEver 22 = .ok (.sipush 10000, 3) := by decide +kernel
theorem dX2_leastEver_25 : decode cX2_leastEver 25 = .ok (.if_icmp .ne 7, 3) := by decide +kernel
theorem dX2_leastEver_28 : decode cX2_leastEver 28 = .ok (.iconst (-1), 1) := by decide +kernel
theorem dX2_leastEver_29 : decode cX2_leastEver 29 = .ok (.goto 4, 3) := by decide +kernel
theorem dX2_leastEver_32 : decode cX2_leastEver 32 = .ok (.iload_n 2, 1) := by decide +kernel
theorem dX2_leastEver_33 : decode cX2_leastEver 33 = .ok (.ireturn, 1) := by decide +kernel
theorem dX2_needWare_0 : decode cX2_needWare 0 = .ok (.iload_n 0, 1) := by decide +kernel
theorem dX2_needWare_1 : decode cX2_needWare 1 = .ok (.ifCond .lt 9, 3) := by decide +kernel
theorem dX2_needWare_4 : decode cX2_needWare 4 = .ok (.iload_n 0, 1) := by decide +kernel
theorem dX2_needWare_5 : decode cX2_needWare 5 = .ok (.bipush 12, 2) := by decide +kernel
theorem dX2_needWare_7 : decode cX2_needWare 7 = .ok (.if_icmp .lt 13, 3) := by decide +kernel
theorem dX2_needWare_10 : decode cX2_needWare 10 = .ok (.new 113, 3) := by decide +kernel
theorem dX2_needWare_13 : decode cX2_needWare 13 = .ok (.dup, 1) := by decide +kernel
theorem dX2_needWare_14 : decode cX2_needWare 14 = .ok (.ldc 115, 2) := by decide +kernel
theorem dX2_needWare_16 : decode cX2_needWare 16 = .ok (.invokespecial 117, 3) := by decide +kernel
theorem dX2_needWare_19 : decode cX2_needWare 19 = .ok (.athrow, 1) := by decide +kernel
theorem dX2_needWare_20 : decode cX2_needWare 20 = .ok (.return_, 1) := by decide +kernel
theorem dX2_needWithin_0 : decode cX2_needWithin 0 = .ok (.iload_n 0, 1) := by decide +kernel
theorem dX2_needWithin_1 : decode cX2_needWithin 1 = .ok (.iload_n 1, 1) := by decide +kernel
theorem dX2_needWithin_2 : decode cX2_needWithin 2 = .ok (.if_icmp .lt 8, 3) := by decide +kernel
theorem dX2_needWithin_5 : decode cX2_needWithin 5 = .ok (.iload_n 0, 1) := by decide +kernel
theorem dX2_needWithin_6 : decode cX2_needWithin 6 = .ok (.iload_n 2, 1) := by decide +kernel
theorem dX2_needWithin_7 : decode cX2_needWithin 7 = .ok (.if_icmp .le 13, 3) := by decide +kernel
theorem dX2_needWithin_10 : decode cX2_needWithin 10 = .ok (.new 118, 3) := by decide +kernel
theorem dX2_needWithin_13 : decode cX2_needWithin 13 = .ok (.dup, 1) := by decide +kernel
theorem dX2_needWithin_14 : decode cX2_needWithin 14 = .ok (.ldc 120, 2) := by decide +kernel
theorem dX2_needWithin_16 : decode cX2_needWithin 16 = .ok (.invokespecial 122, 3) := by decide +kernel
theorem dX2_needWithin_19 : decode cX2_needWithin 19 = .ok (.athrow, 1) := by decide +kernel
theorem dX2_needWithin_20 : decode cX2_needWithin 20 = .ok (.return_, 1) := by decide +kernel
theorem dX2_labelOf_0 : decode cX2_labelOf 0 = .ok (.iload_n 1, 1) := by decide +kernel
theorem dX2_labelOf_1 : decode cX2_labelOf 1 = .ok (.ifCond .lt 11, 3) := by decide +kernel
theorem dX2_labelOf_4 : decode cX2_labelOf 4 = .ok (.iload_n 1, 1) := by decide +kernel
theorem dX2_labelOf_5 : decode cX2_labelOf 5 = .ok (.aload_n 0, 1) := by decide +kernel
theorem dX2_labelOf_6 : decode cX2_labelOf 6 = .ok (.getfield 26, 3) := by decide +kernel
theorem dX2_labelOf_9 : decode cX2_labelOf 9 = .ok (.if_icmp .lt 13, 3) := by decide +kernel
theorem dX2_labelOf_12 : decode cX2_labelOf 12 = .ok (.new 113, 3) := by decide +kernel
theorem dX2_labelOf_15 : decode cX2_labelOf 15 = .ok (.dup, 1) := by decide +kernel
theorem dX2_labelOf_16 : decode cX2_labelOf 16 = .ok (.ldc 123, 2) := by decide +kernel
theorem dX2_labelOf_18 : decode cX2_labelOf 18 = .ok (.invokespecial 117, 3) := by decide +kernel
theorem dX2_labelOf_21 : decode cX2_labelOf 21 = .ok (.athrow, 1) := by decide +kernel
theorem dX2_labelOf_22 : decode cX2_labelOf 22 = .ok (.aload_n 0, 1) := by decide +kernel
theorem dX2_labelOf_23 : decode cX2_labelOf 23 = .ok (.getfield 15, 3) := by decide +kernel
theorem dX2_labelOf_26 : decode cX2_labelOf 26 = .ok (.iload_n 1, 1) := by decide +kernel
theorem dX2_labelOf_27 : decode cX2_labelOf 27 = .ok (.aaload, 1) := by decide +kernel
theorem dX2_labelOf_28 : decode cX2_labelOf 28 = .ok (.areturn, 1) := by decide +kernel
theorem dX2_giveOrder_0 : decode cX2_giveOrder 0 = .ok (.aload_n 0, 1) := by decide +kernel
theorem dX2_giveOrder_1 : decode cX2_giveOrder 1 = .ok (.dup, 1) := by decide +kernel
theorem dX2_giveOrder_2 : decode cX2_giveOrder 2 = .ok (.getfield 33, 3) := by decide +kernel
theorem dX2_giveOrder_5 : decode cX2_giveOrder 5 = .ok (.iconst 1, 1) := by decide +kernel
theorem dX2_giveOrder_6 : decode cX2_giveOrder 6 = .ok (.iadd, 1) := by decide +kernel
theorem dX2_giveOrder_7 : decode cX2_giveOrder 7 = .ok (.putfield 33, 3) := by decide +kernel
theorem dX2_giveOrder_10 : decode cX2_giveOrder 10 = .ok (.aload_n 1, 1) := by decide +kernel
theorem dX2_giveOrder_11 : decode cX2_giveOrder 11 = .ok (.aload_n 0, 1) := by decide +kernel
theorem dX2_giveOrder_12 : decode cX2_giveOrder 12 = .ok (.getfield 33, 3) := by decide +kernel
theorem dX2_giveOrder_15 : decode cX2_giveOrder 15 = .ok (.putfield 68, 3) := by decide +kernel
theorem dX2_giveOrder_18 : decode cX2_giveOrder 18 = .ok (.aload_n 1, 1) := by decide +kernel
theorem dX2_giveOrder_19 : decode cX2_giveOrder 19 = .ok (.aload_n 0, 1) := by decide +kernel
theorem dX2_giveOrder_20 : decode cX2_giveOrder 20 = .ok (.getfield 30, 3) := by decide +kernel
theorem dX2_giveOrder_23 : decode cX2_giveOrder 23 = .ok (.putfield 125, 3) := by decide +kernel
theorem dX2_giveOrder_26 : decode cX2_giveOrder 26 = .ok (.return_, 1) := by decide +kernel
theorem dX2_passOneMinute_0 : decode cX2_passOneMinute 0 = .ok (.aload_n 0, 1) := by decide +kernel
theorem dX2_passOneMinute_1 : decode cX2_passOneMinute 1 = .ok (.dup, 1) := by decide +kernel
theorem dX2_passOneMinute_2 : decode cX2_passOneMinute 2 = .ok (.getfield 30, 3) := by decide +kernel
theorem dX2_passOneMinute_5 : decode cX2_passOneMinute 5 = .ok (.iconst 1, 1) := by decide +kernel
theorem dX2_passOneMinute_6 : decode cX2_passOneMinute 6 = .ok (.iadd, 1) := by decide +kernel
theorem dX2_passOneMinute_7 : decode cX2_passOneMinute 7 = .ok (.putfield 30, 3) := by decide +kernel
theorem dX2_passOneMinute_10 : decode cX2_passOneMinute 10 = .ok (.iconst 0, 1) := by decide +kernel
theorem dX2_passOneMinute_11 : decode cX2_passOneMinute 11 = .ok (.istore_n 1, 1) := by decide +kernel
theorem dX2_passOneMinute_12 : decode cX2_passOneMinute 12 = .ok (.iconst 0, 1) := by decide +kernel
theorem dX2_passOneMinute_13 : decode cX2_passOneMinute 13 = .ok (.istore_n 2, 1) := by decide +kernel
theorem dX2_passOneMinute_14 : decode cX2_passOneMinute 14 = .ok (.iload_n 2, 1) := by decide +kernel
theorem dX2_passOneMinute_15 : decode cX2_passOneMinute 15 = .ok (.iconst 2, 1) := by decide +kernel
theorem dX2_passOneMinute_16 : decode cX2_passOneMinute 16 = .ok (.if_icmp .ge 49, 3) := by decide +kernel
theorem dX2_passOneMinute_19 : decode cX2_passOneMinute 19 = .ok (.aload_n 0, 1) := by decide +kernel
theorem dX2_passOneMinute_20 : decode cX2_passOneMinute 20 = .ok (.invokevirtual 128, 3) := by decide +kernel
theorem dX2_passOneMinute_23 : decode cX2_passOneMinute 23 = .ok (.istore_n 3, 1) := by decide +kernel
theorem dX2_passOneMinute_24 : decode cX2_passOneMinute 24 = .ok (.iload_n 3, 1) := by decide +kernel
theorem dX2_passOneMinute_25 : decode cX2_passOneMinute 25 = .ok (.iconst (-1), 1) := by decide +kernel
theorem dX2_passOneMinute_26 : decode cX2_passOneMinute 26 = .ok (.if_icmp .eq 33, 3) := by decide +kernel
theorem dX2_passOneMinute_29 : decode cX2_passOneMinute 29 = .ok (.aload_n 0, 1) := by decide +kernel
theorem dX2_passOneMinute_30 : decode cX2_passOneMinute 30 = .ok (.getfield 15, 3) := by decide +kernel
theorem dX2_passOneMinute_33 : decode cX2_passOneMinute 33 = .ok (.iload_n 3, 1) := by decide +kernel
theorem dX2_passOneMinute_34 : decode cX2_passOneMinute 34 = .ok (.aaload, 1) := by decide +kernel
theorem dX2_passOneMinute_35 : decode cX2_passOneMinute 35 = .ok (.aload_n 0, 1) := by decide +kernel
theorem dX2_passOneMinute_36 : decode cX2_passOneMinute 36 = .ok (.getfield 9, 3) := by decide +kernel
theorem dX2_passOneMinute_39 : decode cX2_passOneMinute 39 = .ok (.aload_n 0, 1) := by decide +kernel
theorem dX2_passOneMinute_40 : decode cX2_passOneMinute 40 = .ok (.getfield 15, 3) := by decide +kernel
theorem dX2_passOneMinute_43 : decode cX2_passOneMinute 43 = .ok (.iload_n 3, 1) := by decide +kernel
theorem dX2_passOneMinute_44 : decode cX2_passOneMinute 44 = .ok (.aaload, 1) := by decide +kernel
theorem dX2_passOneMinute_45 : decode cX2_passOneMinute 45 = .ok (.getfield 45, 3) := by decide +kernel
theorem dX2_passOneMinute_48 : decode cX2_passOneMinute 48 = .ok (.iaload, 1) := by decide +kernel
theorem dX2_passOneMinute_49 : decode cX2_passOneMinute 49 = .ok (.aload_n 0, 1) := by decide +kernel
theorem dX2_passOneMinute_50 : decode cX2_passOneMinute 50 = .ok (.getfield 30, 3) := by decide +kernel
theorem dX2_passOneMinute_53 : decode cX2_passOneMinute 53 = .ok (.invokevirtual 131, 3) := by decide +kernel
theorem dX2_passOneMinute_56 : decode cX2_passOneMinute 56 = .ok (.iinc 1 1, 3) := by decide +kernel
theorem dX2_passOneMinute_59 : decode cX2_passOneMinute 59 = .ok (.iinc 2 1, 3) := by decide +kernel
theorem dX2_passOneMinute_62 : decode cX2_passOneMinute 62 = .ok (.goto (-48), 3) := by decide +kernel
theorem dX2_passOneMinute_65 : decode cX2_passOneMinute 65 = .ok (.aload_n 0, 1) := by decide +kernel
theorem dX2_passOneMinute_66 : decode cX2_passOneMinute 66 = .ok (.invokevirtual 135, 3) := by decide +kernel
theorem dX2_passOneMinute_69 : decode cX2_passOneMinute 69 = .ok (.iload_n 1, 1) := by decide +kernel
theorem dX2_passOneMinute_70 : decode cX2_passOneMinute 70 = .ok (.ireturn, 1) := by decide +kernel
theorem dX2_endMinute_0 : decode cX2_endMinute 0 = .ok (.aload_n 0, 1) := by decide +kernel
theorem dX2_endMinute_1 : decode cX2_endMinute 1 = .ok (.getfield 22, 3) := by decide +kernel
theorem dX2_endMinute_4 : decode cX2_endMinute 4 = .ok (.aload_n 0, 1) := by decide +kernel
theorem dX2_endMinute_5 : decode cX2_endMinute 5 = .ok (.getfield 30, 3) := by decide +kernel
theorem dX2_endMinute_8 : decode cX2_endMinute 8 = .ok (.invokevirtual 138, 3) := by decide +kernel
theorem dX2_endMinute_11 : decode cX2_endMinute 11 = .ok (.iconst 0, 1) := by decide +kernel
theorem dX2_endMinute_12 : decode cX2_endMinute 12 = .ok (.istore_n 1, 1) := by decide +kernel
theorem dX2_endMinute_13 : decode cX2_endMinute 13 = .ok (.iload_n 1, 1) := by decide +kernel
theorem dX2_endMinute_14 : decode cX2_endMinute 14 = .ok (.aload_n 0, 1) := by decide +kernel
theorem dX2_endMinute_15 : decode cX2_endMinute 15 = .ok (.getfield 26, 3) := by decide +kernel
theorem dX2_endMinute_18 : decode cX2_endMinute 18 = .ok (.if_icmp .ge 47, 3) := by decide +kernel
theorem dX2_endMinute_21 : decode cX2_endMinute 21 = .ok (.aload_n 0, 1) := by decide +kernel
theorem dX2_endMinute_22 : decode cX2_endMinute 22 = .ok (.getfield 15, 3) := by decide +kernel
theorem dX2_endMinute_25 : decode cX2_endMinute 25 = .ok (.iload_n 1, 1) := by decide +kernel
theorem dX2_endMinute_26 : decode cX2_endMinute 26 = .ok (.aaload, 1) := by decide +kernel
theorem dX2_endMinute_27 : decode cX2_endMinute 27 = .ok (.invokevirtual 141, 3) := by decide +kernel
theorem dX2_endMinute_30 : decode cX2_endMinute 30 = .ok (.aload_n 0, 1) := by decide +kernel
theorem dX2_endMinute_31 : decode cX2_endMinute 31 = .ok (.getfield 22, 3) := by decide +kernel
theorem dX2_endMinute_34 : decode cX2_endMinute 34 = .ok (.aload_n 0, 1) := by decide +kernel
theorem dX2_endMinute_35 : decode cX2_endMinute 35 = .ok (.getfield 30, 3) := by decide +kernel
theorem dX2_endMinute_38 : decode cX2_endMinute 38 = .ok (.aload_n 0, 1) := by decide +kernel
theorem dX2_endMinute_39 : decode cX2_endMinute 39 = .ok (.getfield 15, 3) := by decide +kernel
theorem dX2_endMinute_42 : decode cX2_endMinute 42 = .ok (.iload_n 1, 1) := by decide +kernel
theorem dX2_endMinute_43 : decode cX2_endMinute 43 = .ok (.aaload, 1) := by decide +kernel
theorem dX2_endMinute_44 : decode cX2_endMinute 44 = .ok (.getfield 45, 3) := by decide +kernel
theorem dX2_endMinute_47 : decode cX2_endMinute 47 = .ok (.aload_n 0, 1) := by decide +kernel
theorem dX2_endMinute_48 : decode cX2_endMinute 48 = .ok (.getfield 15, 3) := by decide +kernel
theorem dX2_endMinute_51 : decode cX2_endMinute 51 = .ok (.iload_n 1, 1) := by decide +kernel
theorem dX2_endMinute_52 : decode cX2_endMinute 52 = .ok (.aaload, 1) := by decide +kernel
theorem dX2_endMinute_53 : decode cX2_endMinute 53 = .ok (.getfield 59, 3) := by decide +kernel
theorem dX2_endMinute_56 : decode cX2_endMinute 56 = .ok (.invokevirtual 144, 3) := by decide +kernel
theorem dX2_endMinute_59 : decode cX2_endMinute 59 = .ok (.iinc 1 1, 3) := by decide +kernel
theorem dX2_endMinute_62 : decode cX2_endMinute 62 = .ok (.goto (-49), 3) := by decide +kernel
theorem dX2_endMinute_65 : decode cX2_endMinute 65 = .ok (.return_, 1) := by decide +kernel
theorem dX2_leastShownNow_0 : decode cX2_leastShownNow 0 = .ok (.sipush 10000, 3) := by decide +kernel
theorem dX2_leastShownNow_3 : decode cX2_leastShownNow 3 = .ok (.istore_n 2, 1) := by decide +kernel
theorem dX2_leastShownNow_4 : decode cX2_leastShownNow 4 = .ok (.iconst 0, 1) := by decide +kernel
theorem dX2_leastShownNow_5 : decode cX2_leastShownNow 5 = .ok (.istore_n 3, 1) := by decide +kernel
theorem dX2_leastShownNow_6 : decode cX2_leastShownNow 6 = .ok (.iload_n 3, 1) := by decide +kernel
theorem dX2_leastShownNow_7 : decode cX2_leastShownNow 7 = .ok (.aload_n 0, 1) := by decide +kernel
theorem dX2_leastShownNow_8 : decode cX2_leastShownNow 8 = .ok (.getfield 26, 3) := by decide +kernel
theorem dX2_leastShownNow_11 : decode cX2_leastShownNow 11 = .ok (.if_icmp .ge 36, 3) := by decide +kernel
theorem dX2_leastShownNow_14 : decode cX2_leastShownNow 14 = .ok (.aload_n 0, 1) := by decide +kernel
theorem dX2_leastShownNow_15 : decode cX2_leastShownNow 15 = .ok (.getfield 15, 3) := by decide +kernel
theorem dX2_leastShownNow_18 : decode cX2_leastShownNow 18 = .ok (.iload_n 3, 1) := by decide +kernel
theorem dX2_leastShownNow_19 : decode cX2_leastShownNow 19 = .ok (.aaload, 1) := by decide +kernel
theorem dX2_leastShownNow_20 : decode cX2_leastShownNow 20 = .ok (.getfield 45, 3) := by decide +kernel
theorem dX2_leastShownNow_23 : decode cX2_leastShownNow 23 = .ok (.iload_n 1, 1) := by decide +kernel
theorem dX2_leastShownNow_24 : decode cX2_leastShownNow 24 = .ok (.if_icmp .ne 17, 3) := by decide +kernel
theorem dX2_leastShownNow_27 : decode cX2_leastShownNow 27 = .ok (.iload_n 2, 1) := by decide +kernel
theorem dX2_leastShownNow_28 : decode cX2_leastShownNow 28 = .ok (.aload_n 0, 1) := by decide +kernel
theorem dX2_leastShownNow_29 : decode cX2_leastShownNow 29 = .ok (.getfield 15, 3) := by decide +kernel
theorem dX2_leastShownNow_32 : decode cX2_leastShownNow 32 = .ok (.iload_n 3, 1) := by decide +kernel
theorem dX2_leastShownNow_33 : decode cX2_leastShownNow 33 = .ok (.aaload, 1) := by decide +kernel
theorem dX2_leastShownNow_34 : decode cX2_leastShownNow 34 = .ok (.getfield 59, 3) := by decide +kernel
theorem dX2_leastShownNow_37 : decode cX2_leastShownNow 37 = .ok (.invokestatic 104, 3) := by decide +kernel
theorem dX2_leastShownNow_40 : decode cX2_leastShownNow 40 = .ok (.istore_n 2, 1) := by decide +kernel
theorem dX2_leastShownNow_41 : decode cX2_leastShownNow 41 = .ok (.iinc 3 1, 3) := by decide +kernel
theorem dX2_leastShownNow_44 : decode cX2_leastShownNow 44 = .ok (.goto (-38), 3) := by decide +kernel
theorem dX2_leastShownNow_47 : decode cX2_leastShownNow 47 = .ok (.iload_n 2, 1) := by decide +kernel
theorem dX2_leastShownNow_48 : decode cX2_leastShownNow 48 = .ok (.ireturn, 1) := by decide +kernel
theorem dJ9_min_7cf53_0 : decode cJ9_min_7cf53 0 = .ok (.iload_n 0, 1) := by decide +kernel
theorem dJ9_min_7cf53_1 : decode cJ9_min_7cf53 1 = .ok (.iload_n 1, 1) := by decide +kernel
theorem dJ9_min_7cf53_2 : decode cJ9_min_7cf53 2 = .ok (.if_icmp .gt 7, 3) := by decide +kernel
theorem dJ9_min_7cf53_5 : decode cJ9_min_7cf53 5 = .ok (.iload_n 0, 1) := by decide +kernel
theorem dJ9_min_7cf53_6 : decode cJ9_min_7cf53 6 = .ok (.goto 4, 3) := by decide +kernel
theorem dJ9_min_7cf53_9 : decode cJ9_min_7cf53 9 = .ok (.iload_n 1, 1) := by decide +kernel
theorem dJ9_min_7cf53_10 : decode cJ9_min_7cf53 10 = .ok (.ireturn, 1) := by decide +kernel
theorem dJ7_fill_53178_0 : decode cJ7_fill_53178 0 = .ok (.iconst 0, 1) := by decide +kernel
theorem dJ7_fill_53178_1 : decode cJ7_fill_53178 1 = .ok (.istore_n 2, 1) := by decide +kernel
theorem dJ7_fill_53178_2 : decode cJ7_fill_53178 2 = .ok (.aload_n 0, 1) := by decide +kernel
theorem dJ7_fill_53178_3 : decode cJ7_fill_53178 3 = .ok (.arraylength, 1) := by decide +kernel
theorem dJ7_fill_53178_4 : decode cJ7_fill_53178 4 = .ok (.istore_n 3, 1) := by decide +kernel
theorem dJ7_fill_53178_5 : decode cJ7_fill_53178 5 = .ok (.iload_n 2, 1) := by decide +kernel
theorem dJ7_fill_53178_6 : decode cJ7_fill_53178 6 = .ok (.iload_n 3, 1) := by decide +kernel
theorem dJ7_fill_53178_7 : decode cJ7_fill_53178 7 = .ok (.if_icmp .ge 13, 3) := by decide +kernel
theorem dJ7_fill_53178_10 : decode cJ7_fill_53178 10 = .ok (.aload_n 0, 1) := by decide +kernel
theorem dJ7_fill_53178_11 : decode cJ7_fill_53178 11 = .ok (.iload_n 2, 1) := by decide +kernel
theorem dJ7_fill_53178_12 : decode cJ7_fill_53178 12 = .ok (.iload_n 1, 1) := by decide +kernel
theorem dJ7_fill_53178_13 : decode cJ7_fill_53178 13 = .ok (.iastore, 1) := by decide +kernel
theorem dJ7_fill_53178_14 : decode cJ7_fill_53178 14 = .ok (.iinc 2 1, 3) := by decide +kernel
theorem dJ7_fill_53178_17 : decode cJ7_fill_53178 17 = .ok (.goto (-12), 3) := by decide +kernel
theorem dJ7_fill_53178_20 : decode cJ7_fill_53178 20 = .ok (.return_, 1) := by decide +kernel
end
section
/-! decode rows (printed): the reference -/
theorem dX3_init_0 : decode cX3_init 0 = .ok (.aload_n 0, 1) := by decide +kernel
theorem dX3_init_1 : decode cX3_init 1 = .ok (.invokespecial 1, 3) := by decide +kernel
theorem dX3_init_4 : decode cX3_init 4 = .ok (.aload_n 0, 1) := by decide +kernel
theorem dX3_init_5 : decode cX3_init 5 = .ok (.bipush 12, 2) := by decide +kernel
theorem dX3_init_7 : decode cX3_init 7 = .ok (.newarray .int, 2) := by decide +kernel
theorem dX3_init_9 : decode cX3_init 9 = .ok (.putfield 7, 3) := by decide +kernel
theorem dX3_init_12 : decode cX3_init 12 = .ok (.aload_n 0, 1) := by decide +kernel
theorem dX3_init_13 : decode cX3_init 13 = .ok (.bipush 12, 2) := by decide +kernel
theorem dX3_init_15 : decode cX3_init 15 = .ok (.newarray .int, 2) := by decide +kernel
theorem dX3_init_17 : decode cX3_init 17 = .ok (.putfield 13, 3) := by decide +kernel
theorem dX3_init_20 : decode cX3_init 20 = .ok (.aload_n 0, 1) := by decide +kernel
theorem dX3_init_21 : decode cX3_init 21 = .ok (.bipush 12, 2) := by decide +kernel
theorem dX3_init_23 : decode cX3_init 23 = .ok (.newarray .int, 2) := by decide +kernel
theorem dX3_init_25 : decode cX3_init 25 = .ok (.putfield 16, 3) := by decide +kernel
theorem dX3_init_28 : decode cX3_init 28 = .ok (.aload_n 0, 1) := by decide +kernel
theorem dX3_init_29 : decode cX3_init 29 = .ok (.bipush 12, 2) := by decide +kernel
theorem dX3_init_31 : decode cX3_init 31 = .ok (.newarray .int, 2) := by decide +kernel
theorem dX3_init_33 : decode cX3_init 33 = .ok (.putfield 19, 3) := by decide +kernel
theorem dX3_init_36 : decode cX3_init 36 = .ok (.aload_n 0, 1) := by decide +kernel
theorem dX3_init_37 : decode cX3_init 37 = .ok (.bipush 12, 2) := by decide +kernel
theorem dX3_init_39 : decode cX3_init 39 = .ok (.newarray .int, 2) := by decide +kernel
theorem dX3_init_41 : decode cX3_init 41 = .ok (.putfield 22, 3) := by decide +kernel
theorem dX3_init_44 : decode cX3_init 44 = .ok (.aload_n 0, 1) := by decide +kernel
theorem dX3_init_45 : decode cX3_init 45 = .ok (.bipush 12, 2) := by decide +kernel
theorem dX3_init_47 : decode cX3_init 47 = .ok (.newarray .int, 2) := by decide +kernel
theorem dX3_init_49 : decode cX3_init 49 = .ok (.putfield 25, 3) := by decide +kernel
theorem dX3_init_52 : decode cX3_init 52 = .ok (.aload_n 0, 1) := by decide +kernel
theorem dX3_init_53 : decode cX3_init 53 = .ok (.bipush 12, 2) := by decide +kernel
theorem dX3_init_55 : decode cX3_init 55 = .ok (.newarray .int, 2) := by decide +kernel
theorem dX3_init_57 : decode cX3_init 57 = .ok (.putfield 28, 3) := by decide +kernel
theorem dX3_init_60 : decode cX3_init 60 = .ok (.aload_n 0, 1) := by decide +kernel
theorem dX3_init_61 : decode cX3_init 61 = .ok (.bipush 12, 2) := by decide +kernel
theorem dX3_init_63 : decode cX3_init 63 = .ok (.newarray .int, 2) := by decide +kernel
theorem dX3_init_65 : decode cX3_init 65 = .ok (.putfield 31, 3) := by decide +kernel
theorem dX3_init_68 : decode cX3_init 68 = .ok (.aload_n 0, 1) := by decide +kernel
theorem dX3_init_69 : decode cX3_init 69 = .ok (.bipush 12, 2) := by decide +kernel
theorem dX3_init_71 : decode cX3_init 71 = .ok (.newarray .int, 2) := by decide +kernel
theorem dX3_init_73 : decode cX3_init 73 = .ok (.putfield 34, 3) := by decide +kernel
theorem dX3_init_76 : decode cX3_init 76 = .ok (.aload_n 0, 1) := by decide +kernel
theorem dX3_init_77 : decode cX3_init 77 = .ok (.sipush 720, 3) := by decide +kernel
theorem dX3_init_80 : decode cX3_init 80 = .ok (.newarray .int, 2) := by decide +kernel
theorem dX3_init_82 : decode cX3_init 82 = .ok (.putfield 37, 3) := by decide +kernel
theorem dX3_init_85 : decode cX3_init 85 = .ok (.aload_n 0, 1) := by decide +kernel
theorem dX3_init_86 : decode cX3_init 86 = .ok (.bipush 12, 2) := by decide +kernel
theorem dX3_init_88 : decode cX3_init 88 = .ok (.newarray .int, 2) := by decide +kernel
theorem dX3_init_90 : decode cX3_init 90 = .ok (.putfield 40, 3) := by decide +kernel
theorem dX3_init_93 : decode cX3_init 93 = .ok (.iconst 0, 1) := by decide +kernel
theorem dX3_init_94 : decode cX3_init 94 = .ok (.istore_n 1, 1) := by decide +kernel
theorem dX3_init_95 : decode cX3_init 95 = .ok (.iload_n 1, 1) := by decide +kernel
theorem dX3_init_96 : decode cX3_init 96 = .ok (.sipush 720, 3) := by decide +kernel
theorem dX3_init_99 : decode cX3_init 99 = .ok (.if_icmp .ge 16, 3) := by decide +kernel
theorem dX3_init_102 : decode cX3_init 102 = .ok (.aload_n 0, 1) := by decide +kernel
theorem dX3_init_103 : decode cX3_init 103 = .ok (.getfield 37, 3) := by decide +kernel
theorem dX3_init_106 : decode cX3_init 106 = .ok (.iload_n 1, 1) := by decide +kernel
theorem dX3_init_107 : decode cX3_init 107 = .ok (.iconst (-1), 1) := by decide +kernel
theorem dX3_init_108 : decode cX3_init 108 = .ok (.iastore, 1) := by decide +kernel
theorem dX3_init_109 : decode cX3_init 109 = .ok (.iinc 1 1, 3) := by decide +kernel
theorem dX3_init_112 : decode cX3_init 112 = .ok (.goto (-17), 3) := by decide +kernel
theorem dX3_init_115 : decode cX3_init 115 = .ok (.iconst 0, 1) := by decide +kernel
theorem dX3_init_116 : decode cX3_init 116 = .ok (.istore_n 1, 1) := by decide +kernel
theorem dX3_init_117 : decode cX3_init 117 = .ok (.iload_n 1, 1) := by decide +kernel
theorem dX3_init_118 : decode cX3_init 118 = .ok (.bipush 12, 2) := by decide +kernel
theorem dX3_init_120 : decode cX3_init 120 = .ok (.if_icmp .ge 16, 3) := by decide +kernel
theorem dX3_init_123 : decode cX3_init 123 = .ok (.aload_n 0, 1) := by decide +kernel
theorem dX3_init_124 : decode cX3_init 124 = .ok (.getfield 40, 3) := by decide +kernel
theorem dX3_init_127 : decode cX3_init 127 = .ok (.iload_n 1, 1) := by decide +kernel
theorem dX3_init_128 : decode cX3_init 128 = .ok (.iconst (-1), 1) := by decide +kernel
theorem dX3_init_129 : decode cX3_init 129 = .ok (.iastore, 1) := by decide +kernel
theorem dX3_init_130 : decode cX3_init 130 = .ok (.iinc 1 1, 3) := by decide +kernel
theorem dX3_init_133 : decode cX3_init 133 = .ok (.goto (-16), 3) := by decide +kernel
theorem dX3_init_136 : decode cX3_init 136 = .ok (.return_, 1) := by decide +kernel
theorem dX3_thrown_0 : decode cX3_thrown 0 = .ok (.aload_n 0, 1) := by decide +kernel
theorem dX3_thrown_1 : decode cX3_thrown 1 = .ok (.getfield 43, 3) := by decide +kernel
theorem dX3_thrown_4 : decode cX3_thrown 4 = .ok (.ireturn, 1) := by decide +kernel
theorem dX3_holds_0 : decode cX3_holds 0 = .ok (.aload_n 0, 1) := by decide +kernel
theorem dX3_holds_1 : decode cX3_holds 1 = .ok (.iload_n 1, 1) := by decide +kernel
theorem dX3_holds_2 : decode cX3_holds 2 = .ok (.putfield 43, 3) := by decide +kernel
theorem dX3_holds_5 : decode cX3_holds 5 = .ok (.iload_n 1, 1) := by decide +kernel
theorem dX3_holds_6 : decode cX3_holds 6 = .ok (.ifCond .ne 7, 3) := by decide +kernel
theorem dX3_holds_9 : decode cX3_holds 9 = .ok (.iconst 1, 1) := by decide +kernel
theorem dX3_holds_10 : decode cX3_holds 10 = .ok (.goto 4, 3) := by decide +kernel
theorem dX3_holds_13 : decode cX3_holds 13 = .ok (.iconst 0, 1) := by decide +kernel
theorem dX3_holds_14 : decode cX3_holds 14 = .ok (.ireturn, 1) := by decide +kernel
theorem dX3_isIn_0 : decode cX3_isIn 0 = .ok (.iload_n 0, 1) := by decide +kernel
theorem dX3_isIn_1 : decode cX3_isIn 1 = .ok (.iload_n 1, 1) := by decide +kernel
theorem dX3_isIn_2 : decode cX3_isIn 2 = .ok (.if_icmp .lt 12, 3) := by decide +kernel
theorem dX3_isIn_5 : decode cX3_isIn 5 = .ok (.iload_n 0, 1) := by decide +kernel
theorem dX3_isIn_6 : decode cX3_isIn 6 = .ok (.iload_n 2, 1) := by decide +kernel
theorem dX3_isIn_7 : decode cX3_isIn 7 = .ok (.if_icmp .gt 7, 3) := by decide +kernel
theorem dX3_isIn_10 : decode cX3_isIn 10 = .ok (.iconst 1, 1) := by decide +kernel
theorem dX3_isIn_11 : decode cX3_isIn 11 = .ok (.goto 4, 3) := by decide +kernel
theorem dX3_isIn_14 : decode cX3_isIn 14 = .ok (.iconst 0, 1) := by decide +kernel
theorem dX3_isIn_15 : decode cX3_isIn 15 = .ok (.ireturn, 1) := by decide +kernel
theorem dX3_isWare_0 : decode cX3_isWare 0 = .ok (.iload_n 0, 1) := by decide +kernel
theorem dX3_isWare_1 : decode cX3_isWare 1 = .ok (.iconst 0, 1) := by decide +kernel
theorem dX3_isWare_2 : decode cX3_isWare 2 = .ok (.bipush 11, 2) := by decide +kernel
theorem dX3_isWare_4 : decode cX3_isWare 4 = .ok (.invokestatic 47, 3) := by decide +kernel
theorem dX3_isWare_7 : decode cX3_isWare 7 = .ok (.ireturn, 1) := by decide +kernel
theorem dX3_isLabel_0 : decode cX3_isLabel 0 = .ok (.iload_n 1, 1) := by decide +kernel
theorem dX3_isLabel_1 : decode cX3_isLabel 1 = .ok (.iconst 0, 1) := by decide +kernel
theorem dX3_isLabel_2 : decode cX3_isLabel 2 = .ok (.aload_n 0, 1) := by decide +kernel
theorem dX3_isLabel_3 : decode cX3_isLabel 3 = .ok (.getfield 51, 3) := by decide +kernel
theorem dX3_isLabel_6 : decode cX3_isLabel 6 = .ok (.iconst 1, 1) := by decide +kernel
theorem dX3_isLabel_7 : decode cX3_isLabel 7 = .ok (.isub, 1) := by decide +kernel
theorem dX3_isLabel_8 : decode cX3_isLabel 8 = .ok (.invokestatic 47, 3) := by decide +kernel
theorem dX3_isLabel_11 : decode cX3_isLabel 11 = .ok (.ireturn, 1) := by decide +kernel
theorem dX3_gets_0 : decode cX3_gets 0 = .ok (.aload_n 0, 1) := by decide +kernel
theorem dX3_gets_1 : decode cX3_gets 1 = .ok (.dup, 1) := by decide +kernel
theorem dX3_gets_2 : decode cX3_gets 2 = .ok (.getfield 54, 3) := by decide +kernel
theorem dX3_gets_5 : decode cX3_gets 5 = .ok (.iconst 1, 1) := by decide +kernel
theorem dX3_gets_6 : decode cX3_gets 6 = .ok (.iadd, 1) := by decide +kernel
theorem dX3_gets_7 : decode cX3_gets 7 = .ok (.putfield 54, 3) := by decide +kernel
theorem dX3_gets_10 : decode cX3_gets 10 = .ok (.aload_n 0, 1) := by decide +kernel
theorem dX3_gets_11 : decode cX3_gets 11 = .ok (.getfield 31, 3) := by decide +kernel
theorem dX3_gets_14 : decode cX3_gets 14 = .ok (.iload_n 1, 1) := by decide +kernel
theorem dX3_gets_15 : decode cX3_gets 15 = .ok (.aload_n 0, 1) := by decide +kernel
theorem dX3_gets_16 : decode cX3_gets 16 = .ok (.getfield 54, 3) := by decide +kernel
theorem dX3_gets_19 : decode cX3_gets 19 = .ok (.iastore, 1) := by decide +kernel
theorem dX3_gets_20 : decode cX3_gets 20 = .ok (.aload_n 0, 1) := by decide +kernel
theorem dX3_gets_21 : decode cX3_gets 21 = .ok (.getfield 34, 3) := by decide +kernel
theorem dX3_gets_24 : decode cX3_gets 24 = .ok (.iload_n 1, 1) := by decide +kernel
theorem dX3_gets_25 : decode cX3_gets 25 = .ok (.aload_n 0, 1) := by decide +kernel
theorem dX3_gets_26 : decode cX3_gets 26 = .ok (.getfield 57, 3) := by decide +kernel
theorem dX3_gets_29 : decode cX3_gets 29 = .ok (.iastore, 1) := by decide +kernel
theorem dX3_gets_30 : decode cX3_gets 30 = .ok (.return_, 1) := by decide +kernel
theorem dX3_setPrice_0 : decode cX3_setPrice 0 = .ok (.aload_n 0, 1) := by decide +kernel
theorem dX3_setPrice_1 : decode cX3_setPrice 1 = .ok (.iload_n 1, 1) := by decide +kernel
theorem dX3_setPrice_2 : decode cX3_setPrice 2 = .ok (.invokestatic 60, 3) := by decide +kernel
theorem dX3_setPrice_5 : decode cX3_setPrice 5 = .ok (.ifCond .ne 7, 3) := by decide +kernel
theorem dX3_setPrice_8 : decode cX3_setPrice 8 = .ok (.iconst 1, 1) := by decide +kernel
theorem dX3_setPrice_9 : decode cX3_setPrice 9 = .ok (.goto 19, 3) := by decide +kernel
theorem dX3_setPrice_12 : decode cX3_setPrice 12 = .ok (.iload_n 2, 1) := by decide +kernel
theorem dX3_setPrice_13 : decode cX3_setPrice 13 = .ok (.iconst 0, 1) := by decide +kernel
theorem dX3_setPrice_14 : decode cX3_setPrice 14 = .ok (.sipush 9999, 3) := by decide +kernel
theorem dX3_setPrice_17 : decode cX3_setPrice 17 = .ok (.invokestatic 47, 3) := by decide +kernel
theorem dX3_setPrice_20 : decode cX3_setPrice 20 = .ok (.ifCond .eq 7, 3) := by decide +kernel
theorem dX3_setPrice_23 : decode cX3_setPrice 23 = .ok (.iconst 0, 1) := by decide +kernel
theorem dX3_setPrice_24 : decode cX3_setPrice 24 = .ok (.goto 4, 3) := by decide +kernel
theorem dX3_setPrice_27 : decode cX3_setPrice 27 = .ok (.iconst 2, 1) := by decide +kernel
theorem dX3_setPrice_28 : decode cX3_setPrice 28 = .ok (.invokevirtual 64, 3) := by decide +kernel
theorem dX3_setPrice_31 : decode cX3_setPrice 31 = .ok (.ifCond .ne 5, 3) := by decide +kernel
theorem dX3_setPrice_34 : decode cX3_setPrice 34 = .ok (.iconst 0, 1) := by decide +kernel
theorem dX3_setPrice_35 : decode cX3_setPrice 35 = .ok (.ireturn, 1) := by decide +kernel
theorem dX3_setPrice_36 : decode cX3_setPrice 36 = .ok (.aload_n 0, 1) := by decide +kernel
theorem dX3_setPrice_37 : decode cX3_setPrice 37 = .ok (.getfield 7, 3) := by decide +kernel
theorem dX3_setPrice_40 : decode cX3_setPrice 40 = .ok (.iload_n 1, 1) := by decide +kernel
theorem dX3_setPrice_41 : decode cX3_setPrice 41 = .ok (.iaload, 1) := by decide +kernel
theorem dX3_setPrice_42 : decode cX3_setPrice 42 = .ok (.iload_n 2, 1) := by decide +kernel
theorem dX3_setPrice_43 : decode cX3_setPrice 43 = .ok (.if_icmp .ne 5, 3) := by decide +kernel
theorem dX3_setPrice_46 : decode cX3_setPrice 46 = .ok (.iconst 0, 1) := by decide +kernel
theorem dX3_setPrice_47 : decode cX3_setPrice 47 = .ok (.ireturn, 1) := by decide +kernel
theorem dX3_setPrice_48 : decode cX3_setPrice 48 = .ok (.aload_n 0, 1) := by decide +kernel
theorem dX3_setPrice_49 : decode cX3_setPrice 49 = .ok (.getfield 7, 3) := by decide +kernel
theorem dX3_setPrice_52 : decode cX3_setPrice 52 = .ok (.iload_n 1, 1) := by decide +kernel
theorem dX3_setPrice_53 : decode cX3_setPrice 53 = .ok (.iload_n 2, 1) := by decide +kernel
theorem dX3_setPrice_54 : decode cX3_setPrice 54 = .ok (.iastore, 1) := by decide +kernel
theorem dX3_setPrice_55 : decode cX3_setPrice 55 = .ok (.iconst 0, 1) := by decide +kernel
theorem dX3_setPrice_56 : decode cX3_setPrice 56 = .ok (.istore_n 3, 1) := by decide +kernel
theorem dX3_setPrice_57 : decode cX3_setPrice 57 = .ok (.iconst 0, 1) := by decide +kernel
theorem dX3_setPrice_58 : decode cX3_setPrice 58 = .ok (.istore 4, 2) := by decide +kernel
theorem dX3_setPrice_60 : decode cX3_setPrice 60 = .ok (.iload 4, 2) := by decide +kernel
theorem dX3_setPrice_62 : decode cX3_setPrice 62 = .ok (.aload_n 0, 1) := by decide +kernel
theorem dX3_setPrice_63 : decode cX3_setPrice 63 = .ok (.getfield 51, 3) := by decide +kernel
theorem dX3_setPrice_66 : decode cX3_setPrice 66 = .ok (.if_icmp .ge 29, 3) := by decide +kernel
theorem dX3_setPrice_69 : decode cX3_setPrice 69 = .ok (.aload_n 0, 1) := by decide +kernel
theorem dX3_setPrice_70 : decode cX3_setPrice 70 = .ok (.getfield 13, 3) := by decide +kernel
theorem dX3_setPrice_73 : decode cX3_setPrice 73 = .ok (.iload 4, 2) := by decide +kernel
theorem dX3_setPrice_75 : decode cX3_setPrice 75 = .ok (.iaload, 1) := by decide +kernel
theorem dX3_setPrice_76 : decode cX3_setPrice 76 = .ok (.iload_n 1, 1) := by decide +kernel
theorem dX3_setPrice_77 : decode cX3_setPrice 77 = .ok (.if_icmp .ne 12, 3) := by decide +kernel
theorem dX3_setPrice_80 : decode cX3_setPrice 80 = .ok (.aload_n 0, 1) := by decide +kernel
theorem dX3_setPrice_81 : decode cX3_setPrice 81 = .ok (.iload 4, 2) := by decide +kernel
theorem dX3_setPrice_83 : decode cX3_setPrice 83 = .ok (.invokevirtual 67, 3) := by decide +kernel
theorem dX3_setPrice_86 : decode cX3_setPrice 86 = .ok (.iinc 3 1, 3) := by decide +kernel
theorem dX3_setPrice_89 : decode cX3_setPrice 89 = .ok (.iinc 4 1, 3) := by decide +kernel
theorem dX3_setPrice_92 : decode cX3_setPrice 92 = .ok (.goto (-32), 3) := by decide +kernel
theorem dX3_setPrice_95 : decode cX3_setPrice 95 = .ok (.iload_n 3, 1) := by decide +kernel
theorem dX3_setPrice_96 : decode cX3_setPrice 96 = .ok (.ireturn, 1) := by decide +kernel
theorem dX3_price_0 : decode cX3_price 0 = .ok (.aload_n 0, 1) := by decide +kernel
theorem dX3_price_1 : decode cX3_price 1 = .ok (.iload_n 1, 1) := by decide +kernel
theorem dX3_price_2 : decode cX3_price 2 = .ok (.invokestatic 60, 3) := by decide +kernel
theorem dX3_price_5 : decode cX3_price 5 = .ok (.ifCond .eq 7, 3) := by decide +kernel
theorem dX3_price_8 : decode cX3_price 8 = .ok (.iconst 0, 1) := by decide +kernel
theorem dX3_price_9 : decode cX3_price 9 = .ok (.goto 4, 3) := by decide +kernel
theorem dX3_price_12 : decode cX3_price 12 = .ok (.iconst 1, 1) := by decide +kernel
theorem dX3_price_13 : decode cX3_price 13 = .ok (.invokevirtual 64, 3) := by decide +kernel
theorem dX3_price_16 : decode cX3_price 16 = .ok (.ifCond .eq 12, 3) := by decide +kernel
theorem dX3_price_19 : decode cX3_price 19 = .ok (.aload_n 0, 1) := by decide +kernel
theorem dX3_price_20 : decode cX3_price 20 = .ok (.getfield 7, 3) := by decide +kernel
theorem dX3_price_23 : decode cX3_price 23 = .ok (.iload_n 1, 1) := by decide +kernel
theorem dX3_price_24 : decode cX3_price 24 = .ok (.iaload, 1) := by decide +kernel
theorem dX3_price_25 : decode cX3_price 25 = .ok (.goto 4, 3) := by decide +kernel
theorem dX3_price_28 : decode cX3_price 28 = .ok (.iconst 0, 1) := by decide +kernel
theorem dX3_price_29 : decode cX3_price 29 = .ok (.ireturn, 1) := by decide +kernel
theorem dX3_hang_0 : decode cX3_hang 0 = .ok (.iload_n 1, 1) := by decide +kernel
theorem dX3_hang_1 : decode cX3_hang 1 = .ok (.invokestatic 60, 3) := by decide +kernel
theorem dX3_hang_4 : decode cX3_hang 4 = .ok (.istore_n 2, 1) := by decide +kernel
theorem dX3_hang_5 : decode cX3_hang 5 = .ok (.aload_n 0, 1) := by decide +kernel
theorem dX3_hang_6 : decode cX3_hang 6 = .ok (.iload_n 2, 1) := by decide +kernel
theorem dX3_hang_7 : decode cX3_hang 7 = .ok (.ifCond .ne 7, 3) := by decide +kernel
theorem dX3_hang_10 : decode cX3_hang 10 = .ok (.iconst 1, 1) := by decide +kernel
theorem dX3_hang_11 : decode cX3_hang 11 = .ok (.goto 17, 3) := by decide +kernel
theorem dX3_hang_14 : decode cX3_hang 14 = .ok (.aload_n 0, 1) := by decide +kernel
theorem dX3_hang_15 : decode cX3_hang 15 = .ok (.getfield 51, 3) := by decide +kernel
theorem dX3_hang_18 : decode cX3_hang 18 = .ok (.bipush 12, 2) := by decide +kernel
theorem dX3_hang_20 : decode cX3_hang 20 = .ok (.if_icmp .ne 7, 3) := by decide +kernel
theorem dX3_hang_23 : decode cX3_hang 23 = .ok (.iconst 2, 1) := by decide +kernel
theorem dX3_hang_24 : decode cX3_hang 24 = .ok (.goto 4, 3) := by decide +kernel
theorem dX3_hang_27 : decode cX3_hang 27 = .ok (.iconst 0, 1) := by decide +kernel
theorem dX3_hang_28 : decode cX3_hang 28 = .ok (.invokevirtual 64, 3) := by decide +kernel
theorem dX3_hang_31 : decode cX3_hang 31 = .ok (.ifCond .ne 5, 3) := by decide +kernel
theorem dX3_hang_34 : decode cX3_hang 34 = .ok (.iconst 0, 1) := by decide +kernel
theorem dX3_hang_35 : decode cX3_hang 35 = .ok (.ireturn, 1) := by decide +kernel
theorem dX3_hang_36 : decode cX3_hang 36 = .ok (.aload_n 0, 1) := by decide +kernel
theorem dX3_hang_37 : decode cX3_hang 37 = .ok (.getfield 13, 3) := by decide +kernel
theorem dX3_hang_40 : decode cX3_hang 40 = .ok (.aload_n 0, 1) := by decide +kernel
theorem dX3_hang_41 : decode cX3_hang 41 = .ok (.getfield 51, 3) := by decide +kernel
theorem dX3_hang_44 : decode cX3_hang 44 = .ok (.iload_n 1, 1) := by decide +kernel
theorem dX3_hang_45 : decode cX3_hang 45 = .ok (.iastore, 1) := by decide +kernel
theorem dX3_hang_46 : decode cX3_hang 46 = .ok (.aload_n 0, 1) := by decide +kernel
theorem dX3_hang_47 : decode cX3_hang 47 = .ok (.getfield 16, 3) := by decide +kernel
theorem dX3_hang_50 : decode cX3_hang 50 = .ok (.aload_n 0, 1) := by decide +kernel
theorem dX3_hang_51 : decode cX3_hang 51 = .ok (.getfield 51, 3) := by decide +kernel
theorem dX3_hang_54 : decode cX3_hang 54 = .ok (.aload_n 0, 1) := by decide +kernel
theorem dX3_hang_55 : decode cX3_hang 55 = .ok (.getfield 7, 3) := by decide +kernel
theorem dX3_hang_58 : decode cX3_hang 58 = .ok (.iload_n 1, 1) := by decide +kernel
theorem dX3_hang_59 : decode cX3_hang 59 = .ok (.iaload, 1) := by decide +kernel
theorem dX3_hang_60 : decode cX3_hang 60 = .ok (.iastore, 1) := by decide +kernel
theorem dX3_hang_61 : decode cX3_hang 61 = .ok (.aload_n 0, 1) := by decide +kernel
theorem dX3_hang_62 : decode cX3_hang 62 = .ok (.getfield 22, 3) := by decide +kernel
theorem dX3_hang_65 : decode cX3_hang 65 = .ok (.aload_n 0, 1) := by decide +kernel
theorem dX3_hang_66 : decode cX3_hang 66 = .ok (.getfield 51, 3) := by decide +kernel
theorem dX3_hang_69 : decode cX3_hang 69 = .ok (.sipush 1000, 3) := by decide +kernel
theorem dX3_hang_72 : decode cX3_hang 72 = .ok (.iastore, 1) := by decide +kernel
theorem dX3_hang_73 : decode cX3_hang 73 = .ok (.aload_n 0, 1) := by decide +kernel
theorem dX3_hang_74 : decode cX3_hang 74 = .ok (.dup, 1) := by decide +kernel
theorem dX3_hang_75 : decode cX3_hang 75 = .ok (.getfield 51, 3) := by decide +kernel
theorem dX3_hang_78 : decode cX3_hang 78 = .ok (.iconst 1, 1) := by decide +kernel
theorem dX3_hang_79 : decode cX3_hang 79 = .ok (.iadd, 1) := by decide +kernel
theorem dX3_hang_80 : decode cX3_hang 80 = .ok (.putfield 51, 3) := by decide +kernel
theorem dX3_hang_83 : decode cX3_hang 83 = .ok (.aload_n 0, 1) := by decide +kernel
theorem dX3_hang_84 : decode cX3_hang 84 = .ok (.getfield 51, 3) := by decide +kernel
theorem dX3_hang_87 : decode cX3_hang 87 = .ok (.iconst 1, 1) := by decide +kernel
theorem dX3_hang_88 : decode cX3_hang 88 = .ok (.isub, 1) := by decide +kernel
theorem dX3_hang_89 : decode cX3_hang 89 = .ok (.ireturn, 1) := by decide +kernel
theorem dX3_carry_0 : decode cX3_carry 0 = .ok (.aload_n 0, 1) := by decide +kernel
theorem dX3_carry_1 : decode cX3_carry 1 = .ok (.iload_n 1, 1) := by decide +kernel
theorem dX3_carry_2 : decode cX3_carry 2 = .ok (.invokevirtual 71, 3) := by decide +kernel
theorem dX3_carry_5 : decode cX3_carry 5 = .ok (.ifCond .eq 14, 3) := by decide +kernel
theorem dX3_carry_8 : decode cX3_carry 8 = .ok (.iload_n 2, 1) := by decide +kernel
theorem dX3_carry_9 : decode cX3_carry 9 = .ok (.invokestatic 60, 3) := by decide +kernel
theorem dX3_carry_12 : decode cX3_carry 12 = .ok (.ifCond .eq 7, 3) := by decide +kernel
theorem dX3_carry_15 : decode cX3_carry 15 = .ok (.iconst 1, 1) := by decide +kernel
theorem dX3_carry_16 : decode cX3_carry 16 = .ok (.goto 4, 3) := by decide +kernel
theorem dX3_carry_19 : decode cX3_carry 19 = .ok (.iconst 0, 1) := by decide +kernel
theorem dX3_carry_20 : decode cX3_carry 20 = .ok (.istore_n 3, 1) := by decide +kernel
theorem dX3_carry_21 : decode cX3_carry 21 = .ok (.aload_n 0, 1) := by decide +kernel
theorem dX3_carry_22 : decode cX3_carry 22 = .ok (.iload_n 3, 1) := by decide +kernel
theorem dX3_carry_23 : decode cX3_carry 23 = .ok (.ifCond .ne 7, 3) := by decide +kernel
theorem dX3_carry_26 : decode cX3_carry 26 = .ok (.iconst 1, 1) := by decide +kernel
theorem dX3_carry_27 : decode cX3_carry 27 = .ok (.goto 18, 3) := by decide +kernel
theorem dX3_carry_30 : decode cX3_carry 30 = .ok (.aload_n 0, 1) := by decide +kernel
theorem dX3_carry_31 : decode cX3_carry 31 = .ok (.getfield 13, 3) := by decide +kernel
theorem dX3_carry_34 : decode cX3_carry 34 = .ok (.iload_n 1, 1) := by decide +kernel
theorem dX3_carry_35 : decode cX3_carry 35 = .ok (.iaload, 1) := by decide +kernel
theorem dX3_carry_36 : decode cX3_carry 36 = .ok (.iload_n 2, 1) := by decide +kernel
theorem dX3_carry_37 : decode cX3_carry 37 = .ok (.if_icmp .ne 7, 3) := by decide +kernel
theorem dX3_carry_40 : decode cX3_carry 40 = .ok (.iconst 2, 1) := by decide +kernel
theorem dX3_carry_41 : decode cX3_carry 41 = .ok (.goto 4, 3) := by decide +kernel
theorem dX3_carry_44 : decode cX3_carry 44 = .ok (.iconst 0, 1) := by decide +kernel
theorem dX3_carry_45 : decode cX3_carry 45 = .ok (.invokevirtual 64, 3) := by decide +kernel
theorem dX3_carry_48 : decode cX3_carry 48 = .ok (.ifCond .ne 5, 3) := by decide +kernel
theorem dX3_carry_51 : decode cX3_carry 51 = .ok (.iconst 0, 1) := by decide +kernel
theorem dX3_carry_52 : decode cX3_carry 52 = .ok (.ireturn, 1) := by decide +kernel
theorem dX3_carry_53 : decode cX3_carry 53 = .ok (.aload_n 0, 1) := by decide +kernel
theorem dX3_carry_54 : decode cX3_carry 54 = .ok (.getfield 13, 3) := by decide +kernel
theorem dX3_carry_57 : decode cX3_carry 57 = .ok (.iload_n 1, 1) := by decide +kernel
theorem dX3_carry_58 : decode cX3_carry 58 = .ok (.iload_n 2, 1) := by decide +kernel
theorem dX3_carry_59 : decode cX3_carry 59 = .ok (.iastore, 1) := by decide +kernel
theorem dX3_carry_60 : decode cX3_carry 60 = .ok (.aload_n 0, 1) := by decide +kernel
theorem dX3_carry_61 : decode cX3_carry 61 = .ok (.getfield 31, 3) := by decide +kernel
theorem dX3_carry_64 : decode cX3_carry 64 = .ok (.iload_n 1, 1) := by decide +kernel
theorem dX3_carry_65 : decode cX3_carry 65 = .ok (.iconst 0, 1) := by decide +kernel
theorem dX3_carry_66 : decode cX3_carry 66 = .ok (.iastore, 1) := by decide +kernel
theorem dX3_carry_67 : decode cX3_carry 67 = .ok (.aload_n 0, 1) := by decide +kernel
theorem dX3_carry_68 : decode cX3_carry 68 = .ok (.getfield 16, 3) := by decide +kernel
theorem dX3_carry_71 : decode cX3_carry 71 = .ok (.iload_n 1, 1) := by decide +kernel
theorem dX3_carry_72 : decode cX3_carry 72 = .ok (.iaload, 1) := by decide +kernel
theorem dX3_carry_73 : decode cX3_carry 73 = .ok (.aload_n 0, 1) := by decide +kernel
theorem dX3_carry_74 : decode cX3_carry 74 = .ok (.getfield 7, 3) := by decide +kernel
theorem dX3_carry_77 : decode cX3_carry 77 = .ok (.iload_n 2, 1) := by decide +kernel
theorem dX3_carry_78 : decode cX3_carry 78 = .ok (.iaload, 1) := by decide +kernel
theorem dX3_carry_79 : decode cX3_carry 79 = .ok (.if_icmp .eq 8, 3) := by decide +kernel
theorem dX3_carry_82 : decode cX3_carry 82 = .ok (.aload_n 0, 1) := by decide +kernel
theorem dX3_carry_83 : decode cX3_carry 83 = .ok (.iload_n 1, 1) := by decide +kernel
theorem dX3_carry_84 : decode cX3_carry 84 = .ok (.invokevirtual 67, 3) := by decide +kernel
theorem dX3_carry_87 : decode cX3_carry 87 = .ok (.aload_n 0, 1) := by decide +kernel
theorem dX3_carry_88 : decode cX3_carry 88 = .ok (.getfield 31, 3) := by decide +kernel
theorem dX3_carry_91 : decode cX3_carry 91 = .ok (.iload_n 1, 1) := by decide +kernel
theorem dX3_carry_92 : decode cX3_carry 92 = .ok (.iaload, 1) := by decide +kernel
theorem dX3_carry_93 : decode cX3_carry 93 = .ok (.ifCond .le 7, 3) := by decide +kernel
theorem dX3_carry_96 : decode cX3_carry 96 = .ok (.iconst 1, 1) := by decide +kernel
theorem dX3_carry_97 : decode cX3_carry 97 = .ok (.goto 4, 3) := by decide +kernel
theorem dX3_carry_100 : decode cX3_carry 100 = .ok (.iconst 0, 1) := by decide +kernel
theorem dX3_carry_101 : decode cX3_carry 101 = .ok (.ireturn, 1) := by decide +kernel
theorem dX3_charge_0 : decode cX3_charge 0 = .ok (.aload_n 0, 1) := by decide +kernel
theorem dX3_charge_1 : decode cX3_charge 1 = .ok (.aload_n 0, 1) := by decide +kernel
theorem dX3_charge_2 : decode cX3_charge 2 = .ok (.iload_n 1, 1) := by decide +kernel
theorem dX3_charge_3 : decode cX3_charge 3 = .ok (.invokevirtual 71, 3) := by decide +kernel
theorem dX3_charge_6 : decode cX3_charge 6 = .ok (.ifCond .eq 7, 3) := by decide +kernel
theorem dX3_charge_9 : decode cX3_charge 9 = .ok (.iconst 0, 1) := by decide +kernel
theorem dX3_charge_10 : decode cX3_charge 10 = .ok (.goto 4, 3) := by decide +kernel
theorem dX3_charge_13 : decode cX3_charge 13 = .ok (.iconst 1, 1) := by decide +kernel
theorem dX3_charge_14 : decode cX3_charge 14 = .ok (.invokevirtual 64, 3) := by decide +kernel
theorem dX3_charge_17 : decode cX3_charge 17 = .ok (.ifCond .ne 5, 3) := by decide +kernel
theorem dX3_charge_20 : decode cX3_charge 20 = .ok (.iconst 0, 1) := by decide +kernel
theorem dX3_charge_21 : decode cX3_charge 21 = .ok (.ireturn, 1) := by decide +kernel
theorem dX3_charge_22 : decode cX3_charge 22 = .ok (.aload_n 0, 1) := by decide +kernel
theorem dX3_charge_23 : decode cX3_charge 23 = .ok (.getfield 22, 3) := by decide +kernel
theorem dX3_charge_26 : decode cX3_charge 26 = .ok (.iload_n 1, 1) := by decide +kernel
theorem dX3_charge_27 : decode cX3_charge 27 = .ok (.iaload, 1) := by decide +kernel
theorem dX3_charge_28 : decode cX3_charge 28 = .ok (.istore_n 2, 1) := by decide +kernel
theorem dX3_charge_29 : decode cX3_charge 29 = .ok (.aload_n 0, 1) := by decide +kernel
theorem dX3_charge_30 : decode cX3_charge 30 = .ok (.getfield 22, 3) := by decide +kernel
theorem dX3_charge_33 : decode cX3_charge 33 = .ok (.iload_n 1, 1) := by decide +kernel
theorem dX3_charge_34 : decode cX3_charge 34 = .ok (.sipush 1000, 3) := by decide +kernel
theorem dX3_charge_37 : decode cX3_charge 37 = .ok (.iastore, 1) := by decide +kernel
theorem dX3_charge_38 : decode cX3_charge 38 = .ok (.iload_n 2, 1) := by decide +kernel
theorem dX3_charge_39 : decode cX3_charge 39 = .ok (.ireturn, 1) := by decide +kernel
theorem dX3_loseSendings_0 : decode cX3_loseSendings 0 = .ok (.aload_n 0, 1) := by decide +kernel
theorem dX3_loseSendings_1 : decode cX3_loseSendings 1 = .ok (.aload_n 0, 1) := by decide +kernel
theorem dX3_loseSendings_2 : decode cX3_loseSendings 2 = .ok (.iload_n 1, 1) := by decide +kernel
theorem dX3_loseSendings_3 : decode cX3_loseSendings 3 = .ok (.invokevirtual 71, 3) := by decide +kernel
theorem dX3_loseSendings_6 : decode cX3_loseSendings 6 = .ok (.ifCond .ne 7, 3) := by decide +kernel
theorem dX3_loseSendings_9 : decode cX3_loseSendings 9 = .ok (.iconst 1, 1) := by decide +kernel
theorem dX3_loseSendings_10 : decode cX3_loseSendings 10 = .ok (.goto 18, 3) := by decide +kernel
theorem dX3_loseSendings_13 : decode cX3_loseSendings 13 = .ok (.iload_n 2, 1) := by decide +kernel
theorem dX3_loseSendings_14 : decode cX3_loseSendings 14 = .ok (.iconst 0, 1) := by decide +kernel
theorem dX3_loseSendings_15 : decode cX3_loseSendings 15 = .ok (.bipush 20, 2) := by decide +kernel
theorem dX3_loseSendings_17 : decode cX3_loseSendings 17 = .ok (.invokestatic 47, 3) := by decide +kernel
theorem dX3_loseSendings_20 : decode cX3_loseSendings 20 = .ok (.ifCond .eq 7, 3) := by decide +kernel
theorem dX3_loseSendings_23 : decode cX3_loseSendings 23 = .ok (.iconst 0, 1) := by decide +kernel
theorem dX3_loseSendings_24 : decode cX3_loseSendings 24 = .ok (.goto 4, 3) := by decide +kernel
theorem dX3_loseSendings_27 : decode cX3_loseSendings 27 = .ok (.iconst 2, 1) := by decide +kernel
theorem dX3_loseSendings_28 : decode cX3_loseSendings 28 = .ok (.invokevirtual 64, 3) := by decide +kernel
theorem dX3_loseSendings_31 : decode cX3_loseSendings 31 = .ok (.ifCond .ne 5, 3) := by decide +kernel
theorem dX3_loseSendings_34 : decode cX3_loseSendings 34 = .ok (.iconst 0, 1) := by decide +kernel
theorem dX3_loseSendings_35 : decode cX3_loseSendings 35 = .ok (.ireturn, 1) := by decide +kernel
theorem dX3_loseSendings_36 : decode cX3_loseSendings 36 = .ok (.aload_n 0, 1) := by decide +kernel
theorem dX3_loseSendings_37 : decode cX3_loseSendings 37 = .ok (.getfield 25, 3) := by decide +kernel
theorem dX3_loseSendings_40 : decode cX3_loseSendings 40 = .ok (.iload_n 1, 1) := by decide +kernel
theorem dX3_loseSendings_41 : decode cX3_loseSendings 41 = .ok (.iaload, 1) := by decide +kernel
theorem dX3_loseSendings_42 : decode cX3_loseSendings 42 = .ok (.istore_n 3, 1) := by decide +kernel
theorem dX3_loseSendings_43 : decode cX3_loseSendings 43 = .ok (.aload_n 0, 1) := by decide +kernel
theorem dX3_loseSendings_44 : decode cX3_loseSendings 44 = .ok (.getfield 25, 3) := by decide +kernel
theorem dX3_loseSendings_47 : decode cX3_loseSendings 47 = .ok (.iload_n 1, 1) := by decide +kernel
theorem dX3_loseSendings_48 : decode cX3_loseSendings 48 = .ok (.iload_n 2, 1) := by decide +kernel
theorem dX3_loseSendings_49 : decode cX3_loseSendings 49 = .ok (.iastore, 1) := by decide +kernel
theorem dX3_loseSendings_50 : decode cX3_loseSendings 50 = .ok (.iload_n 3, 1) := by decide +kernel
theorem dX3_loseSendings_51 : decode cX3_loseSendings 51 = .ok (.ireturn, 1) := by decide +kernel
theorem dX3_loseAnswers_0 : decode cX3_loseAnswers 0 = .ok (.aload_n 0, 1) := by decide +kernel
theorem dX3_loseAnswers_1 : decode cX3_loseAnswers 1 = .ok (.aload_n 0, 1) := by decide +kernel
theorem dX3_loseAnswers_2 : decode cX3_loseAnswers 2 = .ok (.iload_n 1, 1) := by decide +kernel
theorem dX3_loseAnswers_3 : decode cX3_loseAnswers 3 = .ok (.invokevirtual 71, 3) := by decide +kernel
theorem dX3_loseAnswers_6 : decode cX3_loseAnswers 6 = .ok (.ifCond .ne 7, 3) := by decide +kernel
theorem dX3_loseAnswers_9 : decode cX3_loseAnswers 9 = .ok (.iconst 1, 1) := by decide +kernel
theorem dX3_loseAnswers_10 : decode cX3_loseAnswers 10 = .ok (.goto 18, 3) := by decide +kernel
theorem dX3_loseAnswers_13 : decode cX3_loseAnswers 13 = .ok (.iload_n 2, 1) := by decide +kernel
theorem dX3_loseAnswers_14 : decode cX3_loseAnswers 14 = .ok (.iconst 0, 1) := by decide +kernel
theorem dX3_loseAnswers_15 : decode cX3_loseAnswers 15 = .ok (.bipush 20, 2) := by decide +kernel
theorem dX3_loseAnswers_17 : decode cX3_loseAnswers 17 = .ok (.invokestatic 47, 3) := by decide +kernel
theorem dX3_loseAnswers_20 : decode cX3_loseAnswers 20 = .ok (.ifCond .eq 7, 3) := by decide +kernel
theorem dX3_loseAnswers_23 : decode cX3_loseAnswers 23 = .ok (.iconst 0, 1) := by decide +kernel
theorem dX3_loseAnswers_24 : decode cX3_loseAnswers 24 = .ok (.goto 4, 3) := by decide +kernel
theorem dX3_loseAnswers_27 : decode cX3_loseAnswers 27 = .ok (.iconst 2, 1) := by decide +kernel
theorem dX3_loseAnswers_28 : decode cX3_loseAnswers 28 = .ok (.invokevirtual 64, 3) := by decide +kernel
theorem dX3_loseAnswers_31 : decode cX3_loseAnswers 31 = .ok (.ifCond .ne 5, 3) := by decide +kernel
theorem dX3_loseAnswers_34 : decode cX3_loseAnswers 34 = .ok (.iconst 0, 1) := by decide +kernel
theorem dX3_loseAnswers_35 : decode cX3_loseAnswers 35 = .ok (.ireturn, 1) := by decide +kernel
theorem dX3_loseAnswers_36 : decode cX3_loseAnswers 36 = .ok (.aload_n 0, 1) := by decide +kernel
theorem dX3_loseAnswers_37 : decode cX3_loseAnswers 37 = .ok (.getfield 28, 3) := by decide +kernel
theorem dX3_loseAnswers_40 : decode cX3_loseAnswers 40 = .ok (.iload_n 1, 1) := by decide +kernel
theorem dX3_loseAnswers_41 : decode cX3_loseAnswers 41 = .ok (.iaload, 1) := by decide +kernel
theorem dX3_loseAnswers_42 : decode cX3_loseAnswers 42 = .ok (.istore_n 3, 1) := by decide +kernel
theorem dX3_loseAnswers_43 : decode cX3_loseAnswers 43 = .ok (.aload_n 0, 1) := by decide +kernel
theorem dX3_loseAnswers_44 : decode cX3_loseAnswers 44 = .ok (.getfield 28, 3) := by decide +kernel
theorem dX3_loseAnswers_47 : decode cX3_loseAnswers 47 = .ok (.iload_n 1, 1) := by decide +kernel
theorem dX3_loseAnswers_48 : decode cX3_loseAnswers 48 = .ok (.iload_n 2, 1) := by decide +kernel
theorem dX3_loseAnswers_49 : decode cX3_loseAnswers 49 = .ok (.iastore, 1) := by decide +kernel
theorem dX3_loseAnswers_50 : decode cX3_loseAnswers 50 = .ok (.iload_n 3, 1) := by decide +kernel
theorem dX3_loseAnswers_51 : decode cX3_loseAnswers 51 = .ok (.ireturn, 1) := by decide +kernel
theorem dX3_longest_0 : decode cX3_longest 0 = .ok (.iconst (-1), 1) := by decide +kernel
theorem dX3_longest_1 : decode cX3_longest 1 = .ok (.istore_n 1, 1) := by decide +kernel
theorem dX3_longest_2 : decode cX3_longest 2 = .ok (.iconst 0, 1) := by decide +kernel
theorem dX3_longest_3 : decode cX3_longest 3 = .ok (.istore_n 2, 1) := by decide +kernel
theorem dX3_longest_4 : decode cX3_longest 4 = .ok (.iload_n 2, 1) := by decide +kernel
theorem dX3_longest_5 : decode cX3_longest 5 = .ok (.aload_n 0, 1) := by decide +kernel
theorem dX3_longest_6 : decode cX3_longest 6 = .ok (.getfield 51, 3) := by decide +kernel
theorem dX3_longest_9 : decode cX3_longest 9 = .ok (.if_icmp .ge 109, 3) := by decide +kernel
theorem dX3_longest_12 : decode cX3_longest 12 = .ok (.aload_n 0, 1) := by decide +kernel
theorem dX3_longest_13 : decode cX3_longest 13 = .ok (.getfield 31, 3) := by decide +kernel
theorem dX3_longest_16 : decode cX3_longest 16 = .ok (.iload_n 2, 1) := by decide +kernel
theorem dX3_longest_17 : decode cX3_longest 17 = .ok (.iaload, 1) := by decide +kernel
theorem dX3_longest_18 : decode cX3_longest 18 = .ok (.ifCond .le 20, 3) := by decide +kernel
theorem dX3_longest_21 : decode cX3_longest 21 = .ok (.aload_n 0, 1) := by decide +kernel
theorem dX3_longest_22 : decode cX3_longest 22 = .ok (.getfield 34, 3) := by decide +kernel
theorem dX3_longest_25 : decode cX3_longest 25 = .ok (.iload_n 2, 1) := by decide +kernel
theorem dX3_longest_26 : decode cX3_longest 26 = .ok (.iaload, 1) := by decide +kernel
theorem dX3_longest_27 : decode cX3_longest 27 = .ok (.aload_n 0, 1) := by decide +kernel
theorem dX3_longest_28 : decode cX3_longest 28 = .ok (.getfield 57, 3) := by decide +kernel
theorem dX3_longest_31 : decode cX3_longest 31 = .ok (.if_icmp .gt 7, 3) := by decide +kernel
theorem dX3_longest_34 : decode cX3_longest 34 = .ok (.iconst 1, 1) := by decide +kernel
theorem dX3_longest_35 : decode cX3_longest 35 = .ok (.goto 4, 3) := by decide +kernel
theorem dX3_longest_38 : decode cX3_longest 38 = .ok (.iconst 0, 1) := by decide +kernel
theorem dX3_longest_39 : decode cX3_longest 39 = .ok (.istore_n 3, 1) := by decide +kernel
theorem dX3_longest_40 : decode cX3_longest 40 = .ok (.iload_n 3, 1) := by decide +kernel
theorem dX3_longest_41 : decode cX3_longest 41 = .ok (.ifCond .eq 57, 3) := by decide +kernel
theorem dX3_longest_44 : decode cX3_longest 44 = .ok (.iload_n 1, 1) := by decide +kernel
theorem dX3_longest_45 : decode cX3_longest 45 = .ok (.iconst (-1), 1) := by decide +kernel
theorem dX3_longest_46 : decode cX3_longest 46 = .ok (.if_icmp .eq 48, 3) := by decide +kernel
theorem dX3_longest_49 : decode cX3_longest 49 = .ok (.aload_n 0, 1) := by decide +kernel
theorem dX3_longest_50 : decode cX3_longest 50 = .ok (.getfield 34, 3) := by decide +kernel
theorem dX3_longest_53 : decode cX3_longest 53 = .ok (.iload_n 2, 1) := by decide +kernel
theorem dX3_longest_54 : decode cX3_longest 54 = .ok (.iaload, 1) := by decide +kernel
theorem dX3_longest_55 : decode cX3_longest 55 = .ok (.aload_n 0, 1) := by decide +kernel
theorem dX3_longest_56 : decode cX3_longest 56 = .ok (.getfield 34, 3) := by decide +kernel
theorem dX3_longest_59 : decode cX3_longest 59 = .ok (.iload_n 1, 1) := by decide +kernel
theorem dX3_longest_60 : decode cX3_longest 60 = .ok (.iaload, 1) := by decide +kernel
theorem dX3_longest_61 : decode cX3_longest 61 = .ok (.if_icmp .lt 33, 3) := by decide +kernel
theorem dX3_longest_64 : decode cX3_longest 64 = .ok (.aload_n 0, 1) := by decide +kernel
theorem dX3_longest_65 : decode cX3_longest 65 = .ok (.getfield 34, 3) := by decide +kernel
theorem dX3_longest_68 : decode cX3_longest 68 = .ok (.iload_n 2, 1) := by decide +kernel
theorem dX3_longest_69 : decode cX3_longest 69 = .ok (.iaload, 1) := by decide +kernel
theorem dX3_longest_70 : decode cX3_longest 70 = .ok (.aload_n 0, 1) := by decide +kernel
theorem dX3_longest_71 : decode cX3_longest 71 = .ok (.getfield 34, 3) := by decide +kernel
theorem dX3_longest_74 : decode cX3_longest 74 = .ok (.iload_n 1, 1) := by decide +kernel
theorem dX3_longest_75 : decode cX3_longest 75 = .ok (.iaload, 1) := by decide +kernel
theorem dX3_longest_76 : decode cX3_longest 76 = .ok (.if_icmp .ne 22, 3) := by decide +kernel
theorem dX3_longest_79 : decode cX3_longest 79 = .ok (.aload_n 0, 1) := by decide +kernel
theorem dX3_longest_80 : decode cX3_longest 80 = .ok (.getfield 31, 3) := by decide +kernel
theorem dX3_longest_83 : decode cX3_longest 83 = .ok (.iload_n 2, 1) := by decide +kernel
theorem dX3_longest_84 : decode cX3_longest 84 = .ok (.iaload, 1) := by decide +kernel
theorem dX3_longest_85 : decode cX3_longest 85 = .ok (.aload_n 0, 1) := by decide +kernel
theorem dX3_longest_86 : decode cX3_longest 86 = .ok (.getfield 31, 3) := by decide +kernel
theorem dX3_longest_89 : decode cX3_longest 89 = .ok (.iload_n 1, 1) := by decide +kernel
theorem dX3_longest_90 : decode cX3_longest 90 = .ok (.iaload, 1) := by decide +kernel
theorem dX3_longest_91 : decode cX3_longest 91 = .ok (.if_icmp .ge 7, 3) := by decide +kernel
theorem dX3_longest_94 : decode cX3_longest 94 = .ok (.iconst 1, 1) := by decide +kernel
theorem dX3_longest_95 : decode cX3_longest 95 = .ok (.goto 4, 3) := by decide +kernel
theorem dX3_longest_98 : decode cX3_longest 98 = .ok (.iconst 0, 1) := by decide +kernel
theorem dX3_longest_99 : decode cX3_longest 99 = .ok (.istore 4, 2) := by decide +kernel
theorem dX3_longest_101 : decode cX3_longest 101 = .ok (.iload 4, 2) := by decide +kernel
theorem dX3_longest_103 : decode cX3_longest 103 = .ok (.ifCond .eq 7, 3) := by decide +kernel
theorem dX3_longest_106 : decode cX3_longest 106 = .ok (.iload_n 2, 1) := by decide +kernel
theorem dX3_longest_107 : decode cX3_longest 107 = .ok (.goto 4, 3) := by decide +kernel
theorem dX3_longest_110 : decode cX3_longest 110 = .ok (.iload_n 1, 1) := by decide +kernel
theorem dX3_longest_111 : decode cX3_longest 111 = .ok (.istore_n 1, 1) := by decide +kernel
theorem dX3_longest_112 : decode cX3_longest 112 = .ok (.iinc 2 1, 3) := by decide +kernel
theorem dX3_longest_115 : decode cX3_longest 115 = .ok (.goto (-111), 3) := by decide +kernel
theorem dX3_longest_118 : decode cX3_longest 118 = .ok (.iload_n 1, 1) := by decide +kernel
theorem dX3_longest_119 : decode cX3_longest 119 = .ok (.ireturn, 1) := by decide +kernel
theorem dX3_changed_0 : decode cX3_changed 0 = .ok (.iconst 0, 1) := by decide +kernel
theorem dX3_changed_1 : decode cX3_changed 1 = .ok (.istore_n 2, 1) := by decide +kernel
theorem dX3_changed_2 : decode cX3_changed 2 = .ok (.iconst 1, 1) := by decide +kernel
theorem dX3_changed_3 : decode cX3_changed 3 = .ok (.istore_n 3, 1) := by decide +kernel
theorem dX3_changed_4 : decode cX3_changed 4 = .ok (.iload_n 3, 1) := by decide +kernel
theorem dX3_changed_5 : decode cX3_changed 5 = .ok (.sipush 10000, 3) := by decide +kernel
theorem dX3_changed_8 : decode cX3_changed 8 = .ok (.if_icmp .ge 34, 3) := by decide +kernel
theorem dX3_changed_11 : decode cX3_changed 11 = .ok (.iload_n 2, 1) := by decide +kernel
theorem dX3_changed_12 : decode cX3_changed 12 = .ok (.iload_n 0, 1) := by decide +kernel
theorem dX3_changed_13 : decode cX3_changed 13 = .ok (.iload_n 3, 1) := by decide +kernel
theorem dX3_changed_14 : decode cX3_changed 14 = .ok (.idiv, 1) := by decide +kernel
theorem dX3_changed_15 : decode cX3_changed 15 = .ok (.bipush 10, 2) := by decide +kernel
theorem dX3_changed_17 : decode cX3_changed 17 = .ok (.irem, 1) := by decide +kernel
theorem dX3_changed_18 : decode cX3_changed 18 = .ok (.iload_n 1, 1) := by decide +kernel
theorem dX3_changed_19 : decode cX3_changed 19 = .ok (.iload_n 3, 1) := by decide +kernel
theorem dX3_changed_20 : decode cX3_changed 20 = .ok (.idiv, 1) := by decide +kernel
theorem dX3_changed_21 : decode cX3_changed 21 = .ok (.bipush 10, 2) := by decide +kernel
theorem dX3_changed_23 : decode cX3_changed 23 = .ok (.irem, 1) := by decide +kernel
theorem dX3_changed_24 : decode cX3_changed 24 = .ok (.if_icmp .eq 7, 3) := by decide +kernel
theorem dX3_changed_27 : decode cX3_changed 27 = .ok (.iconst 1, 1) := by decide +kernel
theorem dX3_changed_28 : decode cX3_changed 28 = .ok (.goto 4, 3) := by decide +kernel
theorem dX3_changed_31 : decode cX3_changed 31 = .ok (.iconst 0, 1) := by decide +kernel
theorem dX3_changed_32 : decode cX3_changed 32 = .ok (.iadd, 1) := by decide +kernel
theorem dX3_changed_33 : decode cX3_changed 33 = .ok (.istore_n 2, 1) := by decide +kernel
theorem dX3_changed_34 : decode cX3_changed 34 = .ok (.iload_n 3, 1) := by decide +kernel
theorem dX3_changed_35 : decode cX3_changed 35 = .ok (.bipush 10, 2) := by decide +kernel
theorem dX3_changed_37 : decode cX3_changed 37 = .ok (.imul, 1) := by decide +kernel
theorem dX3_changed_38 : decode cX3_changed 38 = .ok (.istore_n 3, 1) := by decide +kernel
theorem dX3_changed_39 : decode cX3_changed 39 = .ok (.goto (-35), 3) := by decide +kernel
theorem dX3_changed_42 : decode cX3_changed 42 = .ok (.iload_n 2, 1) := by decide +kernel
theorem dX3_changed_43 : decode cX3_changed 43 = .ok (.ireturn, 1) := by decide +kernel
theorem dX3_redraws_0 : decode cX3_redraws 0 = .ok (.aload_n 0, 1) := by decide +kernel
theorem dX3_redraws_1 : decode cX3_redraws 1 = .ok (.getfield 7, 3) := by decide +kernel
theorem dX3_redraws_4 : decode cX3_redraws 4 = .ok (.aload_n 0, 1) := by decide +kernel
theorem dX3_redraws_5 : decode cX3_redraws 5 = .ok (.getfield 13, 3) := by decide +kernel
theorem dX3_redraws_8 : decode cX3_redraws 8 = .ok (.iload_n 1, 1) := by decide +kernel
theorem dX3_redraws_9 : decode cX3_redraws 9 = .ok (.iaload, 1) := by decide +kernel
theorem dX3_redraws_10 : decode cX3_redraws 10 = .ok (.iaload, 1) := by decide +kernel
theorem dX3_redraws_11 : decode cX3_redraws 11 = .ok (.istore_n 2, 1) := by decide +kernel
theorem dX3_redraws_12 : decode cX3_redraws 12 = .ok (.aload_n 0, 1) := by decide +kernel
theorem dX3_redraws_13 : decode cX3_redraws 13 = .ok (.getfield 16, 3) := by decide +kernel
theorem dX3_redraws_16 : decode cX3_redraws 16 = .ok (.iload_n 1, 1) := by decide +kernel
theorem dX3_redraws_17 : decode cX3_redraws 17 = .ok (.iaload, 1) := by decide +kernel
theorem dX3_redraws_18 : decode cX3_redraws 18 = .ok (.iload_n 2, 1) := by decide +kernel
theorem dX3_redraws_19 : decode cX3_redraws 19 = .ok (.invokestatic 74, 3) := by decide +kernel
theorem dX3_redraws_22 : decode cX3_redraws 22 = .ok (.istore_n 3, 1) := by decide +kernel
theorem dX3_redraws_23 : decode cX3_redraws 23 = .ok (.iload_n 3, 1) := by decide +kernel
theorem dX3_redraws_24 : decode cX3_redraws 24 = .ok (.ifCond .le 74, 3) := by decide +kernel
theorem dX3_redraws_27 : decode cX3_redraws 27 = .ok (.aload_n 0, 1) := by decide +kernel
theorem dX3_redraws_28 : decode cX3_redraws 28 = .ok (.getfield 19, 3) := by decide +kernel
theorem dX3_redraws_31 : decode cX3_redraws 31 = .ok (.iload_n 1, 1) := by decide +kernel
theorem dX3_redraws_32 : decode cX3_redraws 32 = .ok (.iaload, 1) := by decide +kernel
theorem dX3_redraws_33 : decode cX3_redraws 33 = .ok (.iload_n 3, 1) := by decide +kernel
theorem dX3_redraws_34 : decode cX3_redraws 34 = .ok (.iadd, 1) := by decide +kernel
theorem dX3_redraws_35 : decode cX3_redraws 35 = .ok (.bipush 9, 2) := by decide +kernel
theorem dX3_redraws_37 : decode cX3_redraws 37 = .ok (.if_icmp .le 7, 3) := by decide +kernel
theorem dX3_redraws_40 : decode cX3_redraws 40 = .ok (.iconst 1, 1) := by decide +kernel
theorem dX3_redraws_41 : decode cX3_redraws 41 = .ok (.goto 4, 3) := by decide +kernel
theorem dX3_redraws_44 : decode cX3_redraws 44 = .ok (.iconst 0, 1) := by decide +kernel
theorem dX3_redraws_45 : decode cX3_redraws 45 = .ok (.istore 4, 2) := by decide +kernel
theorem dX3_redraws_47 : decode cX3_redraws 47 = .ok (.aload_n 0, 1) := by decide +kernel
theorem dX3_redraws_48 : decode cX3_redraws 48 = .ok (.getfield 22, 3) := by decide +kernel
theorem dX3_redraws_51 : decode cX3_redraws 51 = .ok (.iload_n 1, 1) := by decide +kernel
theorem dX3_redraws_52 : decode cX3_redraws 52 = .ok (.dup2, 1) := by decide +kernel
theorem dX3_redraws_53 : decode cX3_redraws 53 = .ok (.iaload, 1) := by decide +kernel
theorem dX3_redraws_54 : decode cX3_redraws 54 = .ok (.iload 4, 2) := by decide +kernel
theorem dX3_redraws_56 : decode cX3_redraws 56 = .ok (.ifCond .eq 8, 3) := by decide +kernel
theorem dX3_redraws_59 : decode cX3_redraws 59 = .ok (.bipush 20, 2) := by decide +kernel
theorem dX3_redraws_61 : decode cX3_redraws 61 = .ok (.goto 5, 3) := by decide +kernel
theorem dX3_redraws_64 : decode cX3_redraws 64 = .ok (.bipush 10, 2) := by decide +kernel
theorem dX3_redraws_66 : decode cX3_redraws 66 = .ok (.isub, 1) := by decide +kernel
theorem dX3_redraws_67 : decode cX3_redraws 67 = .ok (.iastore, 1) := by decide +kernel
theorem dX3_redraws_68 : decode cX3_redraws 68 = .ok (.aload_n 0, 1) := by decide +kernel
theorem dX3_redraws_69 : decode cX3_redraws 69 = .ok (.getfield 19, 3) := by decide +kernel
theorem dX3_redraws_72 : decode cX3_redraws 72 = .ok (.iload_n 1, 1) := by decide +kernel
theorem dX3_redraws_73 : decode cX3_redraws 73 = .ok (.iload 4, 2) := by decide +kernel
theorem dX3_redraws_75 : decode cX3_redraws 75 = .ok (.ifCond .eq 7, 3) := by decide +kernel
theorem dX3_redraws_78 : decode cX3_redraws 78 = .ok (.iconst 0, 1) := by decide +kernel
theorem dX3_redraws_79 : decode cX3_redraws 79 = .ok (.goto 11, 3) := by decide +kernel
theorem dX3_redraws_82 : decode cX3_redraws 82 = .ok (.aload_n 0, 1) := by decide +kernel
theorem dX3_redraws_83 : decode cX3_redraws 83 = .ok (.getfield 19, 3) := by decide +kernel
theorem dX3_redraws_86 : decode cX3_redraws 86 = .ok (.iload_n 1, 1) := by decide +kernel
theorem dX3_redraws_87 : decode cX3_redraws 87 = .ok (.iaload, 1) := by decide +kernel
theorem dX3_redraws_88 : decode cX3_redraws 88 = .ok (.iload_n 3, 1) := by decide +kernel
theorem dX3_redraws_89 : decode cX3_redraws 89 = .ok (.iadd, 1) := by decide +kernel
theorem dX3_redraws_90 : decode cX3_redraws 90 = .ok (.iastore, 1) := by decide +kernel
theorem dX3_redraws_91 : decode cX3_redraws 91 = .ok (.aload_n 0, 1) := by decide +kernel
theorem dX3_redraws_92 : decode cX3_redraws 92 = .ok (.getfield 16, 3) := by decide +kernel
theorem dX3_redraws_95 : decode cX3_redraws 95 = .ok (.iload_n 1, 1) := by decide +kernel
theorem dX3_redraws_96 : decode cX3_redraws 96 = .ok (.iload_n 2, 1) := by decide +kernel
theorem dX3_redraws_97 : decode cX3_redraws 97 = .ok (.iastore, 1) := by decide +kernel
theorem dX3_redraws_98 : decode cX3_redraws 98 = .ok (.return_, 1) := by decide +kernel
theorem dX3_sends_0 : decode cX3_sends 0 = .ok (.aload_n 0, 1) := by decide +kernel
theorem dX3_sends_1 : decode cX3_sends 1 = .ok (.getfield 34, 3) := by decide +kernel
theorem dX3_sends_4 : decode cX3_sends 4 = .ok (.iload_n 1, 1) := by decide +kernel
theorem dX3_sends_5 : decode cX3_sends 5 = .ok (.aload_n 0, 1) := by decide +kernel
theorem dX3_sends_6 : decode cX3_sends 6 = .ok (.getfield 57, 3) := by decide +kernel
theorem dX3_sends_9 : decode cX3_sends 9 = .ok (.iconst 5, 1) := by decide +kernel
theorem dX3_sends_10 : decode cX3_sends 10 = .ok (.iadd, 1) := by decide +kernel
theorem dX3_sends_11 : decode cX3_sends 11 = .ok (.iastore, 1) := by decide +kernel
theorem dX3_sends_12 : decode cX3_sends 12 = .ok (.aload_n 0, 1) := by decide +kernel
theorem dX3_sends_13 : decode cX3_sends 13 = .ok (.getfield 25, 3) := by decide +kernel
theorem dX3_sends_16 : decode cX3_sends 16 = .ok (.iload_n 1, 1) := by decide +kernel
theorem dX3_sends_17 : decode cX3_sends 17 = .ok (.iaload, 1) := by decide +kernel
theorem dX3_sends_18 : decode cX3_sends 18 = .ok (.ifCond .le 16, 3) := by decide +kernel
theorem dX3_sends_21 : decode cX3_sends 21 = .ok (.aload_n 0, 1) := by decide +kernel
theorem dX3_sends_22 : decode cX3_sends 22 = .ok (.getfield 25, 3) := by decide +kernel
theorem dX3_sends_25 : decode cX3_sends 25 = .ok (.iload_n 1, 1) := by decide +kernel
theorem dX3_sends_26 : decode cX3_sends 26 = .ok (.dup2, 1) := by decide +kernel
theorem dX3_sends_27 : decode cX3_sends 27 = .ok (.iaload, 1) := by decide +kernel
theorem dX3_sends_28 : decode cX3_sends 28 = .ok (.iconst 1, 1) := by decide +kernel
theorem dX3_sends_29 : decode cX3_sends 29 = .ok (.isub, 1) := by decide +kernel
theorem dX3_sends_30 : decode cX3_sends 30 = .ok (.iastore, 1) := by decide +kernel
theorem dX3_sends_31 : decode cX3_sends 31 = .ok (.goto 48, 3) := by decide +kernel
theorem dX3_sends_34 : decode cX3_sends 34 = .ok (.aload_n 0, 1) := by decide +kernel
theorem dX3_sends_35 : decode cX3_sends 35 = .ok (.getfield 22, 3) := by decide +kernel
theorem dX3_sends_38 : decode cX3_sends 38 = .ok (.iload_n 1, 1) := by decide +kernel
theorem dX3_sends_39 : decode cX3_sends 39 = .ok (.iaload, 1) := by decide +kernel
theorem dX3_sends_40 : decode cX3_sends 40 = .ok (.bipush 20, 2) := by decide +kernel
theorem dX3_sends_42 : decode cX3_sends 42 = .ok (.if_icmp .lt 37, 3) := by decide +kernel
theorem dX3_sends_45 : decode cX3_sends 45 = .ok (.aload_n 0, 1) := by decide +kernel
theorem dX3_sends_46 : decode cX3_sends 46 = .ok (.iload_n 1, 1) := by decide +kernel
theorem dX3_sends_47 : decode cX3_sends 47 = .ok (.invokevirtual 78, 3) := by decide +kernel
theorem dX3_sends_50 : decode cX3_sends 50 = .ok (.aload_n 0, 1) := by decide +kernel
theorem dX3_sends_51 : decode cX3_sends 51 = .ok (.getfield 28, 3) := by decide +kernel
theorem dX3_sends_54 : decode cX3_sends 54 = .ok (.iload_n 1, 1) := by decide +kernel
theorem dX3_sends_55 : decode cX3_sends 55 = .ok (.iaload, 1) := by decide +kernel
theorem dX3_sends_56 : decode cX3_sends 56 = .ok (.ifCond .le 16, 3) := by decide +kernel
theorem dX3_sends_59 : decode cX3_sends 59 = .ok (.aload_n 0, 1) := by decide +kernel
theorem dX3_sends_60 : decode cX3_sends 60 = .ok (.getfield 28, 3) := by decide +kernel
theorem dX3_sends_63 : decode cX3_sends 63 = .ok (.iload_n 1, 1) := by decide +kernel
theorem dX3_sends_64 : decode cX3_sends 64 = .ok (.dup2, 1) := by decide +kernel
theorem dX3_sends_65 : decode cX3_sends 65 = .ok (.iaload, 1) := by decide +kernel
theorem dX3_sends_66 : decode cX3_sends 66 = .ok (.iconst 1, 1) := by decide +kernel
theorem dX3_sends_67 : decode cX3_sends 67 = .ok (.isub, 1) := by decide +kernel
theorem dX3_sends_68 : decode cX3_sends 68 = .ok (.iastore, 1) := by decide +kernel
theorem dX3_sends_69 : decode cX3_sends 69 = .ok (.goto 10, 3) := by decide +kernel
theorem dX3_sends_72 : decode cX3_sends 72 = .ok (.aload_n 0, 1) := by decide +kernel
theorem dX3_sends_73 : decode cX3_sends 73 = .ok (.getfield 31, 3) := by decide +kernel
theorem dX3_sends_76 : decode cX3_sends 76 = .ok (.iload_n 1, 1) := by decide +kernel
theorem dX3_sends_77 : decode cX3_sends 77 = .ok (.iconst 0, 1) := by decide +kernel
theorem dX3_sends_78 : decode cX3_sends 78 = .ok (.iastore, 1) := by decide +kernel
theorem dX3_sends_79 : decode cX3_sends 79 = .ok (.return_, 1) := by decide +kernel
theorem dX3_leastNow_0 : decode cX3_leastNow 0 = .ok (.iconst (-1), 1) := by decide +kernel
theorem dX3_leastNow_1 : decode cX3_leastNow 1 = .ok (.istore_n 2, 1) := by decide +kernel
theorem dX3_leastNow_2 : decode cX3_leastNow 2 = .ok (.iconst 0, 1) := by decide +kernel
theorem dX3_leastNow_3 : decode cX3_leastNow 3 = .ok (.istore_n 3, 1) := by decide +kernel
theorem dX3_leastNow_4 : decode cX3_leastNow 4 = .ok (.iload_n 3, 1) := by decide +kernel
theorem dX3_leastNow_5 : decode cX3_leastNow 5 = .ok (.aload_n 0, 1) := by decide +kernel
theorem dX3_leastNow_6 : decode cX3_leastNow 6 = .ok (.getfield 51, 3) := by decide +kernel
theorem dX3_leastNow_9 : decode cX3_leastNow 9 = .ok (.if_icmp .ge 45, 3) := by decide +kernel
theorem dX3_leastNow_12 : decode cX3_leastNow 12 = .ok (.aload_n 0, 1) := by decide +kernel
theorem dX3_leastNow_13 : decode cX3_leastNow 13 = .ok (.getfield 13, 3) := by decide +kernel
theorem dX3_leastNow_16 : decode cX3_leastNow 16 = .ok (.iload_n 3, 1) := by decide +kernel
theorem dX3_leastNow_17 : decode cX3_leastNow 17 = .ok (.iaload, 1) := by decide +kernel
theorem dX3_leastNow_18 : decode cX3_leastNow 18 = .ok (.iload_n 1, 1) := by decide +kernel
theorem dX3_leastNow_19 : decode cX3_leastNow 19 = .ok (.if_icmp .ne 27, 3) := by decide +kernel
theorem dX3_leastNow_22 : decode cX3_leastNow 22 = .ok (.iload_n 2, 1) := by decide +kernel
theorem dX3_leastNow_23 : decode cX3_leastNow 23 = .ok (.iconst (-1), 1) := by decide +kernel
theorem dX3_leastNow_24 : decode cX3_leastNow 24 = .ok (.if_icmp .eq 13, 3) := by decide +kernel
theorem dX3_leastNow_27 : decode cX3_leastNow 27 = .ok (.aload_n 0, 1) := by decide +kernel
theorem dX3_leastNow_28 : decode cX3_leastNow 28 = .ok (.getfield 16, 3) := by decide +kernel
theorem dX3_leastNow_31 : decode cX3_leastNow 31 = .ok (.iload_n 3, 1) := by decide +kernel
theorem dX3_leastNow_32 : decode cX3_leastNow 32 = .ok (.iaload, 1) := by decide +kernel
theorem dX3_leastNow_33 : decode cX3_leastNow 33 = .ok (.iload_n 2, 1) := by decide +kernel
theorem dX3_leastNow_34 : decode cX3_leastNow 34 = .ok (.if_icmp .ge 12, 3) := by decide +kernel
theorem dX3_leastNow_37 : decode cX3_leastNow 37 = .ok (.aload_n 0, 1) := by decide +kernel
theorem dX3_leastNow_38 : decode cX3_leastNow 38 = .ok (.getfield 16, 3) := by decide +kernel
theorem dX3_leastNow_41 : decode cX3_leastNow 41 = .ok (.iload_n 3, 1) := by decide +kernel
theorem dX3_leastNow_42 : decode cX3_leastNow 42 = .ok (.iaload, 1) := by decide +kernel
theorem dX3_leastNow_43 : decode cX3_leastNow 43 = .ok (.goto 4, 3) := by decide +kernel
theorem dX3_leastNow_46 : decode cX3_leastNow 46 = .ok (.iload_n 2, 1) := by decide +kernel
theorem dX3_leastNow_47 : decode cX3_leastNow 47 = .ok (.istore_n 2, 1) := by decide +kernel
theorem dX3_leastNow_48 : decode cX3_leastNow 48 = .ok (.iinc 3 1, 3) := by decide +kernel
theorem dX3_leastNow_51 : decode cX3_leastNow 51 = .ok (.goto (-47), 3) := by decide +kernel
theorem dX3_leastNow_54 : decode cX3_leastNow 54 = .ok (.iload_n 2, 1) := by decide +kernel
theorem dX3_leastNow_55 : decode cX3_leastNow 55 = .ok (.ireturn, 1) := by decide +kernel
theorem dX3_lesser_0 : decode cX3_lesser 0 = .ok (.iload_n 0, 1) := by decide +kernel
theorem dX3_lesser_1 : decode cX3_lesser 1 = .ok (.iconst (-1), 1) := by decide +kernel
theorem dX3_lesser_2 : decode cX3_lesser 2 = .ok (.if_icmp .eq 13, 3) := by decide +kernel
theorem dX3_lesser_5 : decode cX3_lesser 5 = .ok (.iload_n 1, 1) := by decide +kernel
theorem dX3_lesser_6 : decode cX3_lesser 6 = .ok (.iconst (-1), 1) := by decide +kernel
theorem dX3_lesser_7 : decode cX3_lesser 7 = .ok (.if_icmp .eq 12, 3) := by decide +kernel
theorem dX3_lesser_10 : decode cX3_lesser 10 = .ok (.iload_n 1, 1) := by decide +kernel
theorem dX3_lesser_11 : decode cX3_lesser 11 = .ok (.iload_n 0, 1) := by decide +kernel
theorem dX3_lesser_12 : decode cX3_lesser 12 = .ok (.if_icmp .ge 7, 3) := by decide +kernel
theorem dX3_lesser_15 : decode cX3_lesser 15 = .ok (.iload_n 1, 1) := by decide +kernel
theorem dX3_lesser_16 : decode cX3_lesser 16 = .ok (.goto 4, 3) := by decide +kernel
theorem dX3_lesser_19 : decode cX3_lesser 19 = .ok (.iload_n 0, 1) := by decide +kernel
theorem dX3_lesser_20 : decode cX3_lesser 20 = .ok (.ireturn, 1) := by decide +kernel
theorem dX3_goes_0 : decode cX3_goes 0 = .ok (.iconst 0, 1) := by decide +kernel
theorem dX3_goes_1 : decode cX3_goes 1 = .ok (.istore_n 1, 1) := by decide +kernel
theorem dX3_goes_2 : decode cX3_goes 2 = .ok (.aload_n 0, 1) := by decide +kernel
theorem dX3_goes_3 : decode cX3_goes 3 = .ok (.dup, 1) := by decide +kernel
theorem dX3_goes_4 : decode cX3_goes 4 = .ok (.getfield 57, 3) := by decide +kernel
theorem dX3_goes_7 : decode cX3_goes 7 = .ok (.iconst 1, 1) := by decide +kernel
theorem dX3_goes_8 : decode cX3_goes 8 = .ok (.iadd, 1) := by decide +kernel
theorem dX3_goes_9 : decode cX3_goes 9 = .ok (.putfield 57, 3) := by decide +kernel
theorem dX3_goes_12 : decode cX3_goes 12 = .ok (.iconst 0, 1) := by decide +kernel
theorem dX3_goes_13 : decode cX3_goes 13 = .ok (.istore_n 2, 1) := by decide +kernel
theorem dX3_goes_14 : decode cX3_goes 14 = .ok (.iload_n 2, 1) := by decide +kernel
theorem dX3_goes_15 : decode cX3_goes 15 = .ok (.iconst 2, 1) := by decide +kernel
theorem dX3_goes_16 : decode cX3_goes 16 = .ok (.if_icmp .ge 27, 3) := by decide +kernel
theorem dX3_goes_19 : decode cX3_goes 19 = .ok (.aload_n 0, 1) := by decide +kernel
theorem dX3_goes_20 : decode cX3_goes 20 = .ok (.invokevirtual 81, 3) := by decide +kernel
theorem dX3_goes_23 : decode cX3_goes 23 = .ok (.istore_n 3, 1) := by decide +kernel
theorem dX3_goes_24 : decode cX3_goes 24 = .ok (.iload_n 3, 1) := by decide +kernel
theorem dX3_goes_25 : decode cX3_goes 25 = .ok (.iconst (-1), 1) := by decide +kernel
theorem dX3_goes_26 : decode cX3_goes 26 = .ok (.if_icmp .eq 11, 3) := by decide +kernel
theorem dX3_goes_29 : decode cX3_goes 29 = .ok (.aload_n 0, 1) := by decide +kernel
theorem dX3_goes_30 : decode cX3_goes 30 = .ok (.iload_n 3, 1) := by decide +kernel
theorem dX3_goes_31 : decode cX3_goes 31 = .ok (.invokevirtual 85, 3) := by decide +kernel
theorem dX3_goes_34 : decode cX3_goes 34 = .ok (.iinc 1 1, 3) := by decide +kernel
theorem dX3_goes_37 : decode cX3_goes 37 = .ok (.iinc 2 1, 3) := by decide +kernel
theorem dX3_goes_40 : decode cX3_goes 40 = .ok (.goto (-26), 3) := by decide +kernel
theorem dX3_goes_43 : decode cX3_goes 43 = .ok (.iconst 0, 1) := by decide +kernel
theorem dX3_goes_44 : decode cX3_goes 44 = .ok (.istore_n 2, 1) := by decide +kernel
theorem dX3_goes_45 : decode cX3_goes 45 = .ok (.iload_n 2, 1) := by decide +kernel
theorem dX3_goes_46 : decode cX3_goes 46 = .ok (.aload_n 0, 1) := by decide +kernel
theorem dX3_goes_47 : decode cX3_goes 47 = .ok (.getfield 51, 3) := by decide +kernel
theorem dX3_goes_50 : decode cX3_goes 50 = .ok (.if_icmp .ge 32, 3) := by decide +kernel
theorem dX3_goes_53 : decode cX3_goes 53 = .ok (.aload_n 0, 1) := by decide +kernel
theorem dX3_goes_54 : decode cX3_goes 54 = .ok (.getfield 22, 3) := by decide +kernel
theorem dX3_goes_57 : decode cX3_goes 57 = .ok (.iload_n 2, 1) := by decide +kernel
theorem dX3_goes_58 : decode cX3_goes 58 = .ok (.dup2, 1) := by decide +kernel
theorem dX3_goes_59 : decode cX3_goes 59 = .ok (.iaload, 1) := by decide +kernel
theorem dX3_goes_60 : decode cX3_goes 60 = .ok (.aload_n 0, 1) := by decide +kernel
theorem dX3_goes_61 : decode cX3_goes 61 = .ok (.getfield 22, 3) := by decide +kernel
theorem dX3_goes_64 : decode cX3_goes 64 = .ok (.iload_n 2, 1) := by decide +kernel
theorem dX3_goes_65 : decode cX3_goes 65 = .ok (.iaload, 1) := by decide +kernel
theorem dX3_goes_66 : decode cX3_goes 66 = .ok (.ifCond .le 7, 3) := by decide +kernel
theorem dX3_goes_69 : decode cX3_goes 69 = .ok (.iconst 1, 1) := by decide +kernel
theorem dX3_goes_70 : decode cX3_goes 70 = .ok (.goto 4, 3) := by decide +kernel
theorem dX3_goes_73 : decode cX3_goes 73 = .ok (.iconst 0, 1) := by decide +kernel
theorem dX3_goes_74 : decode cX3_goes 74 = .ok (.isub, 1) := by decide +kernel
theorem dX3_goes_75 : decode cX3_goes 75 = .ok (.iastore, 1) := by decide +kernel
theorem dX3_goes_76 : decode cX3_goes 76 = .ok (.iinc 2 1, 3) := by decide +kernel
theorem dX3_goes_79 : decode cX3_goes 79 = .ok (.goto (-34), 3) := by decide +kernel
theorem dX3_goes_82 : decode cX3_goes 82 = .ok (.iconst 0, 1) := by decide +kernel
theorem dX3_goes_83 : decode cX3_goes 83 = .ok (.istore_n 2, 1) := by decide +kernel
theorem dX3_goes_84 : decode cX3_goes 84 = .ok (.iload_n 2, 1) := by decide +kernel
theorem dX3_goes_85 : decode cX3_goes 85 = .ok (.bipush 12, 2) := by decide +kernel
theorem dX3_goes_87 : decode cX3_goes 87 = .ok (.if_icmp .ge 49, 3) := by decide +kernel
theorem dX3_goes_90 : decode cX3_goes 90 = .ok (.aload_n 0, 1) := by decide +kernel
theorem dX3_goes_91 : decode cX3_goes 91 = .ok (.iload_n 2, 1) := by decide +kernel
theorem dX3_goes_92 : decode cX3_goes 92 = .ok (.invokevirtual 88, 3) := by decide +kernel
theorem dX3_goes_95 : decode cX3_goes 95 = .ok (.istore_n 3, 1) := by decide +kernel
theorem dX3_goes_96 : decode cX3_goes 96 = .ok (.aload_n 0, 1) := by decide +kernel
theorem dX3_goes_97 : decode cX3_goes 97 = .ok (.getfield 37, 3) := by decide +kernel
theorem dX3_goes_100 : decode cX3_goes 100 = .ok (.bipush 60, 2) := by decide +kernel
theorem dX3_goes_102 : decode cX3_goes 102 = .ok (.iload_n 2, 1) := by decide +kernel
theorem dX3_goes_103 : decode cX3_goes 103 = .ok (.imul, 1) := by decide +kernel
theorem dX3_goes_104 : decode cX3_goes 104 = .ok (.aload_n 0, 1) := by decide +kernel
theorem dX3_goes_105 : decode cX3_goes 105 = .ok (.getfield 57, 3) := by decide +kernel
theorem dX3_goes_108 : decode cX3_goes 108 = .ok (.bipush 60, 2) := by decide +kernel
theorem dX3_goes_110 : decode cX3_goes 110 = .ok (.irem, 1) := by decide +kernel
theorem dX3_goes_111 : decode cX3_goes 111 = .ok (.iadd, 1) := by decide +kernel
theorem dX3_goes_112 : decode cX3_goes 112 = .ok (.iload_n 3, 1) := by decide +kernel
theorem dX3_goes_113 : decode cX3_goes 113 = .ok (.iastore, 1) := by decide +kernel
theorem dX3_goes_114 : decode cX3_goes 114 = .ok (.aload_n 0, 1) := by decide +kernel
theorem dX3_goes_115 : decode cX3_goes 115 = .ok (.getfield 40, 3) := by decide +kernel
theorem dX3_goes_118 : decode cX3_goes 118 = .ok (.iload_n 2, 1) := by decide +kernel
theorem dX3_goes_119 : decode cX3_goes 119 = .ok (.aload_n 0, 1) := by decide +kernel
theorem dX3_goes_120 : decode cX3_goes 120 = .ok (.getfield 40, 3) := by decide +kernel
theorem dX3_goes_123 : decode cX3_goes 123 = .ok (.iload_n 2, 1) := by decide +kernel
theorem dX3_goes_124 : decode cX3_goes 124 = .ok (.iaload, 1) := by decide +kernel
theorem dX3_goes_125 : decode cX3_goes 125 = .ok (.iload_n 3, 1) := by decide +kernel
theorem dX3_goes_126 : decode cX3_goes 126 = .ok (.invokestatic 92, 3) := by decide +kernel
theorem dX3_goes_129 : decode cX3_goes 129 = .ok (.iastore, 1) := by decide +kernel
theorem dX3_goes_130 : decode cX3_goes 130 = .ok (.iinc 2 1, 3) := by decide +kernel
theorem dX3_goes_133 : decode cX3_goes 133 = .ok (.goto (-49), 3) := by decide +kernel
theorem dX3_goes_136 : decode cX3_goes 136 = .ok (.iload_n 1, 1) := by decide +kernel
theorem dX3_goes_137 : decode cX3_goes 137 = .ok (.ireturn, 1) := by decide +kernel
theorem dX3_pass_0 : decode cX3_pass 0 = .ok (.aload_n 0, 1) := by decide +kernel
theorem dX3_pass_1 : decode cX3_pass 1 = .ok (.iload_n 1, 1) := by decide +kernel
theorem dX3_pass_2 : decode cX3_pass 2 = .ok (.iconst 1, 1) := by decide +kernel
theorem dX3_pass_3 : decode cX3_pass 3 = .ok (.sipush 200, 3) := by decide +kernel
theorem dX3_pass_6 : decode cX3_pass 6 = .ok (.invokestatic 47, 3) := by decide +kernel
theorem dX3_pass_9 : decode cX3_pass 9 = .ok (.ifCond .ne 7, 3) := by decide +kernel
theorem dX3_pass_12 : decode cX3_pass 12 = .ok (.iconst 1, 1) := by decide +kernel
theorem dX3_pass_13 : decode cX3_pass 13 = .ok (.goto 20, 3) := by decide +kernel
theorem dX3_pass_16 : decode cX3_pass 16 = .ok (.aload_n 0, 1) := by decide +kernel
theorem dX3_pass_17 : decode cX3_pass 17 = .ok (.getfield 57, 3) := by decide +kernel
theorem dX3_pass_20 : decode cX3_pass 20 = .ok (.iload_n 1, 1) := by decide +kernel
theorem dX3_pass_21 : decode cX3_pass 21 = .ok (.iadd, 1) := by decide +kernel
theorem dX3_pass_22 : decode cX3_pass 22 = .ok (.sipush 10000, 3) := by decide +kernel
theorem dX3_pass_25 : decode cX3_pass 25 = .ok (.if_icmp .le 7, 3) := by decide +kernel
theorem dX3_pass_28 : decode cX3_pass 28 = .ok (.iconst 2, 1) := by decide +kernel
theorem dX3_pass_29 : decode cX3_pass 29 = .ok (.goto 4, 3) := by decide +kernel
theorem dX3_pass_32 : decode cX3_pass 32 = .ok (.iconst 0, 1) := by decide +kernel
theorem dX3_pass_33 : decode cX3_pass 33 = .ok (.invokevirtual 64, 3) := by decide +kernel
theorem dX3_pass_36 : decode cX3_pass 36 = .ok (.ifCond .ne 5, 3) := by decide +kernel
theorem dX3_pass_39 : decode cX3_pass 39 = .ok (.iconst 0, 1) := by decide +kernel
theorem dX3_pass_40 : decode cX3_pass 40 = .ok (.ireturn, 1) := by decide +kernel
theorem dX3_pass_41 : decode cX3_pass 41 = .ok (.iconst 0, 1) := by decide +kernel
theorem dX3_pass_42 : decode cX3_pass 42 = .ok (.istore_n 2, 1) := by decide +kernel
theorem dX3_pass_43 : decode cX3_pass 43 = .ok (.iconst 0, 1) := by decide +kernel
theorem dX3_pass_44 : decode cX3_pass 44 = .ok (.istore_n 3, 1) := by decide +kernel
theorem dX3_pass_45 : decode cX3_pass 45 = .ok (.iload_n 3, 1) := by decide +kernel
theorem dX3_pass_46 : decode cX3_pass 46 = .ok (.iload_n 1, 1) := by decide +kernel
theorem dX3_pass_47 : decode cX3_pass 47 = .ok (.if_icmp .ge 16, 3) := by decide +kernel
theorem dX3_pass_50 : decode cX3_pass 50 = .ok (.iload_n 2, 1) := by decide +kernel
theorem dX3_pass_51 : decode cX3_pass 51 = .ok (.aload_n 0, 1) := by decide +kernel
theorem dX3_pass_52 : decode cX3_pass 52 = .ok (.invokevirtual 95, 3) := by decide +kernel
theorem dX3_pass_55 : decode cX3_pass 55 = .ok (.iadd, 1) := by decide +kernel
theorem dX3_pass_56 : decode cX3_pass 56 = .ok (.istore_n 2, 1) := by decide +kernel
theorem dX3_pass_57 : decode cX3_pass 57 = .ok (.iinc 3 1, 3) := by decide +kernel
theorem dX3_pass_60 : decode cX3_pass 60 = .ok (.goto (-15), 3) := by decide +kernel
theorem dX3_pass_63 : decode cX3_pass 63 = .ok (.iload_n 2, 1) := by decide +kernel
theorem dX3_pass_64 : decode cX3_pass 64 = .ok (.ireturn, 1) := by decide +kernel
theorem dX3_time_0 : decode cX3_time 0 = .ok (.aload_n 0, 1) := by decide +kernel
theorem dX3_time_1 : decode cX3_time 1 = .ok (.iconst 0, 1) := by decide +kernel
theorem dX3_time_2 : decode cX3_time 2 = .ok (.putfield 43, 3) := by decide +kernel
theorem dX3_time_5 : decode cX3_time 5 = .ok (.aload_n 0, 1) := by decide +kernel
theorem dX3_time_6 : decode cX3_time 6 = .ok (.getfield 57, 3) := by decide +kernel
theorem dX3_time_9 : decode cX3_time 9 = .ok (.ireturn, 1) := by decide +kernel
theorem dX3_order_0 : decode cX3_order 0 = .ok (.aload_n 0, 1) := by decide +kernel
theorem dX3_order_1 : decode cX3_order 1 = .ok (.aload_n 0, 1) := by decide +kernel
theorem dX3_order_2 : decode cX3_order 2 = .ok (.iload_n 1, 1) := by decide +kernel
theorem dX3_order_3 : decode cX3_order 3 = .ok (.invokevirtual 71, 3) := by decide +kernel
theorem dX3_order_6 : decode cX3_order 6 = .ok (.ifCond .eq 7, 3) := by decide +kernel
theorem dX3_order_9 : decode cX3_order 9 = .ok (.iconst 0, 1) := by decide +kernel
theorem dX3_order_10 : decode cX3_order 10 = .ok (.goto 4, 3) := by decide +kernel
theorem dX3_order_13 : decode cX3_order 13 = .ok (.iconst 1, 1) := by decide +kernel
theorem dX3_order_14 : decode cX3_order 14 = .ok (.invokevirtual 64, 3) := by decide +kernel
theorem dX3_order_17 : decode cX3_order 17 = .ok (.ifCond .ne 5, 3) := by decide +kernel
theorem dX3_order_20 : decode cX3_order 20 = .ok (.iconst 0, 1) := by decide +kernel
theorem dX3_order_21 : decode cX3_order 21 = .ok (.ireturn, 1) := by decide +kernel
theorem dX3_order_22 : decode cX3_order 22 = .ok (.aload_n 0, 1) := by decide +kernel
theorem dX3_order_23 : decode cX3_order 23 = .ok (.getfield 31, 3) := by decide +kernel
theorem dX3_order_26 : decode cX3_order 26 = .ok (.iload_n 1, 1) := by decide +kernel
theorem dX3_order_27 : decode cX3_order 27 = .ok (.iaload, 1) := by decide +kernel
theorem dX3_order_28 : decode cX3_order 28 = .ok (.ifCond .ne 7, 3) := by decide +kernel
theorem dX3_order_31 : decode cX3_order 31 = .ok (.iconst (-1), 1) := by decide +kernel
theorem dX3_order_32 : decode cX3_order 32 = .ok (.goto 9, 3) := by decide +kernel
theorem dX3_order_35 : decode cX3_order 35 = .ok (.aload_n 0, 1) := by decide +kernel
theorem dX3_order_36 : decode cX3_order 36 = .ok (.getfield 31, 3) := by decide +kernel
theorem dX3_order_39 : decode cX3_order 39 = .ok (.iload_n 1, 1) := by decide +kernel
theorem dX3_order_40 : decode cX3_order 40 = .ok (.iaload, 1) := by decide +kernel
theorem dX3_order_41 : decode cX3_order 41 = .ok (.ireturn, 1) := by decide +kernel
theorem dX3_orders_0 : decode cX3_orders 0 = .ok (.aload_n 0, 1) := by decide +kernel
theorem dX3_orders_1 : decode cX3_orders 1 = .ok (.iconst 0, 1) := by decide +kernel
theorem dX3_orders_2 : decode cX3_orders 2 = .ok (.putfield 43, 3) := by decide +kernel
theorem dX3_orders_5 : decode cX3_orders 5 = .ok (.iconst 0, 1) := by decide +kernel
theorem dX3_orders_6 : decode cX3_orders 6 = .ok (.istore_n 1, 1) := by decide +kernel
theorem dX3_orders_7 : decode cX3_orders 7 = .ok (.iconst 0, 1) := by decide +kernel
theorem dX3_orders_8 : decode cX3_orders 8 = .ok (.istore_n 2, 1) := by decide +kernel
theorem dX3_orders_9 : decode cX3_orders 9 = .ok (.iload_n 2, 1) := by decide +kernel
theorem dX3_orders_10 : decode cX3_orders 10 = .ok (.aload_n 0, 1) := by decide +kernel
theorem dX3_orders_11 : decode cX3_orders 11 = .ok (.getfield 51, 3) := by decide +kernel
theorem dX3_orders_14 : decode cX3_orders 14 = .ok (.if_icmp .ge 26, 3) := by decide +kernel
theorem dX3_orders_17 : decode cX3_orders 17 = .ok (.iload_n 1, 1) := by decide +kernel
theorem dX3_orders_18 : decode cX3_orders 18 = .ok (.aload_n 0, 1) := by decide +kernel
theorem dX3_orders_19 : decode cX3_orders 19 = .ok (.getfield 31, 3) := by decide +kernel
theorem dX3_orders_22 : decode cX3_orders 22 = .ok (.iload_n 2, 1) := by decide +kernel
theorem dX3_orders_23 : decode cX3_orders 23 = .ok (.iaload, 1) := by decide +kernel
theorem dX3_orders_24 : decode cX3_orders 24 = .ok (.ifCond .le 7, 3) := by decide +kernel
theorem dX3_orders_27 : decode cX3_orders 27 = .ok (.iconst 1, 1) := by decide +kernel
theorem dX3_orders_28 : decode cX3_orders 28 = .ok (.goto 4, 3) := by decide +kernel
theorem dX3_orders_31 : decode cX3_orders 31 = .ok (.iconst 0, 1) := by decide +kernel
theorem dX3_orders_32 : decode cX3_orders 32 = .ok (.iadd, 1) := by decide +kernel
theorem dX3_orders_33 : decode cX3_orders 33 = .ok (.istore_n 1, 1) := by decide +kernel
theorem dX3_orders_34 : decode cX3_orders 34 = .ok (.iinc 2 1, 3) := by decide +kernel
theorem dX3_orders_37 : decode cX3_orders 37 = .ok (.goto (-28), 3) := by decide +kernel
theorem dX3_orders_40 : decode cX3_orders 40 = .ok (.iload_n 1, 1) := by decide +kernel
theorem dX3_orders_41 : decode cX3_orders 41 = .ok (.ireturn, 1) := by decide +kernel
theorem dX3_nextToSend_0 : decode cX3_nextToSend 0 = .ok (.aload_n 0, 1) := by decide +kernel
theorem dX3_nextToSend_1 : decode cX3_nextToSend 1 = .ok (.iconst 0, 1) := by decide +kernel
theorem dX3_nextToSend_2 : decode cX3_nextToSend 2 = .ok (.putfield 43, 3) := by decide +kernel
theorem dX3_nextToSend_5 : decode cX3_nextToSend 5 = .ok (.aload_n 0, 1) := by decide +kernel
theorem dX3_nextToSend_6 : decode cX3_nextToSend 6 = .ok (.invokevirtual 81, 3) := by decide +kernel
theorem dX3_nextToSend_9 : decode cX3_nextToSend 9 = .ok (.ireturn, 1) := by decide +kernel
theorem dX3_shown_0 : decode cX3_shown 0 = .ok (.aload_n 0, 1) := by decide +kernel
theorem dX3_shown_1 : decode cX3_shown 1 = .ok (.aload_n 0, 1) := by decide +kernel
theorem dX3_shown_2 : decode cX3_shown 2 = .ok (.iload_n 1, 1) := by decide +kernel
theorem dX3_shown_3 : decode cX3_shown 3 = .ok (.invokevirtual 71, 3) := by decide +kernel
theorem dX3_shown_6 : decode cX3_shown 6 = .ok (.ifCond .eq 7, 3) := by decide +kernel
theorem dX3_shown_9 : decode cX3_shown 9 = .ok (.iconst 0, 1) := by decide +kernel
theorem dX3_shown_10 : decode cX3_shown 10 = .ok (.goto 4, 3) := by decide +kernel
theorem dX3_shown_13 : decode cX3_shown 13 = .ok (.iconst 1, 1) := by decide +kernel
theorem dX3_shown_14 : decode cX3_shown 14 = .ok (.invokevirtual 64, 3) := by decide +kernel
theorem dX3_shown_17 : decode cX3_shown 17 = .ok (.ifCond .eq 12, 3) := by decide +kernel
theorem dX3_shown_20 : decode cX3_shown 20 = .ok (.aload_n 0, 1) := by decide +kernel
theorem dX3_shown_21 : decode cX3_shown 21 = .ok (.getfield 16, 3) := by decide +kernel
theorem dX3_shown_24 : decode cX3_shown 24 = .ok (.iload_n 1, 1) := by decide +kernel
theorem dX3_shown_25 : decode cX3_shown 25 = .ok (.iaload, 1) := by decide +kernel
theorem dX3_shown_26 : decode cX3_shown 26 = .ok (.goto 4, 3) := by decide +kernel
theorem dX3_shown_29 : decode cX3_shown 29 = .ok (.iconst 0, 1) := by decide +kernel
theorem dX3_shown_30 : decode cX3_shown 30 = .ok (.ireturn, 1) := by decide +kernel
theorem dX3_ghosts_0 : decode cX3_ghosts 0 = .ok (.aload_n 0, 1) := by decide +kernel
theorem dX3_ghosts_1 : decode cX3_ghosts 1 = .ok (.aload_n 0, 1) := by decide +kernel
theorem dX3_ghosts_2 : decode cX3_ghosts 2 = .ok (.iload_n 1, 1) := by decide +kernel
theorem dX3_ghosts_3 : decode cX3_ghosts 3 = .ok (.invokevirtual 71, 3) := by decide +kernel
theorem dX3_ghosts_6 : decode cX3_ghosts 6 = .ok (.ifCond .eq 7, 3) := by decide +kernel
theorem dX3_ghosts_9 : decode cX3_ghosts 9 = .ok (.iconst 0, 1) := by decide +kernel
theorem dX3_ghosts_10 : decode cX3_ghosts 10 = .ok (.goto 4, 3) := by decide +kernel
theorem dX3_ghosts_13 : decode cX3_ghosts 13 = .ok (.iconst 1, 1) := by decide +kernel
theorem dX3_ghosts_14 : decode cX3_ghosts 14 = .ok (.invokevirtual 64, 3) := by decide +kernel
theorem dX3_ghosts_17 : decode cX3_ghosts 17 = .ok (.ifCond .eq 12, 3) := by decide +kernel
theorem dX3_ghosts_20 : decode cX3_ghosts 20 = .ok (.aload_n 0, 1) := by decide +kernel
theorem dX3_ghosts_21 : decode cX3_ghosts 21 = .ok (.getfield 19, 3) := by decide +kernel
theorem dX3_ghosts_24 : decode cX3_ghosts 24 = .ok (.iload_n 1, 1) := by decide +kernel
theorem dX3_ghosts_25 : decode cX3_ghosts 25 = .ok (.iaload, 1) := by decide +kernel
theorem dX3_ghosts_26 : decode cX3_ghosts 26 = .ok (.goto 4, 3) := by decide +kernel
theorem dX3_ghosts_29 : decode cX3_ghosts 29 = .ok (.iconst 0, 1) := by decide +kernel
theorem dX3_ghosts_30 : decode cX3_ghosts 30 = .ok (.ireturn, 1) := by decide +kernel
theorem dX3_battery_0 : decode cX3_battery 0 = .ok (.aload_n 0, 1) := by decide +kernel
theorem dX3_battery_1 : decode cX3_battery 1 = .ok (.aload_n 0, 1) := by decide +kernel
theorem dX3_battery_2 : decode cX3_battery 2 = .ok (.iload_n 1, 1) := by decide +kernel
theorem dX3_battery_3 : decode cX3_battery 3 = .ok (.invokevirtual 71, 3) := by decide +kernel
theorem dX3_battery_6 : decode cX3_battery 6 = .ok (.ifCond .eq 7, 3) := by decide +kernel
theorem dX3_battery_9 : decode cX3_battery 9 = .ok (.iconst 0, 1) := by decide +kernel
theorem dX3_battery_10 : decode cX3_battery 10 = .ok (.goto 4, 3) := by decide +kernel
theorem dX3_battery_13 : decode cX3_battery 13 = .ok (.iconst 1, 1) := by decide +kernel
theorem dX3_battery_14 : decode cX3_battery 14 = .ok (.invokevirtual 64, 3) := by decide +kernel
theorem dX3_battery_17 : decode cX3_battery 17 = .ok (.ifCond .eq 12, 3) := by decide +kernel
theorem dX3_battery_20 : decode cX3_battery 20 = .ok (.aload_n 0, 1) := by decide +kernel
theorem dX3_battery_21 : decode cX3_battery 21 = .ok (.getfield 22, 3) := by decide +kernel
theorem dX3_battery_24 : decode cX3_battery 24 = .ok (.iload_n 1, 1) := by decide +kernel
theorem dX3_battery_25 : decode cX3_battery 25 = .ok (.iaload, 1) := by decide +kernel
theorem dX3_battery_26 : decode cX3_battery 26 = .ok (.goto 4, 3) := by decide +kernel
theorem dX3_battery_29 : decode cX3_battery 29 = .ok (.iconst 0, 1) := by decide +kernel
theorem dX3_battery_30 : decode cX3_battery 30 = .ok (.ireturn, 1) := by decide +kernel
theorem dX3_lies_0 : decode cX3_lies 0 = .ok (.aload_n 0, 1) := by decide +kernel
theorem dX3_lies_1 : decode cX3_lies 1 = .ok (.iconst 0, 1) := by decide +kernel
theorem dX3_lies_2 : decode cX3_lies 2 = .ok (.putfield 43, 3) := by decide +kernel
theorem dX3_lies_5 : decode cX3_lies 5 = .ok (.iconst 0, 1) := by decide +kernel
theorem dX3_lies_6 : decode cX3_lies 6 = .ok (.istore_n 1, 1) := by decide +kernel
theorem dX3_lies_7 : decode cX3_lies 7 = .ok (.iconst 0, 1) := by decide +kernel
theorem dX3_lies_8 : decode cX3_lies 8 = .ok (.istore_n 2, 1) := by decide +kernel
theorem dX3_lies_9 : decode cX3_lies 9 = .ok (.iload_n 2, 1) := by decide +kernel
theorem dX3_lies_10 : decode cX3_lies 10 = .ok (.aload_n 0, 1) := by decide +kernel
theorem dX3_lies_11 : decode cX3_lies 11 = .ok (.getfield 51, 3) := by decide +kernel
theorem dX3_lies_14 : decode cX3_lies 14 = .ok (.if_icmp .ge 39, 3) := by decide +kernel
theorem dX3_lies_17 : decode cX3_lies 17 = .ok (.iload_n 1, 1) := by decide +kernel
theorem dX3_lies_18 : decode cX3_lies 18 = .ok (.aload_n 0, 1) := by decide +kernel
theorem dX3_lies_19 : decode cX3_lies 19 = .ok (.getfield 16, 3) := by decide +kernel
theorem dX3_lies_22 : decode cX3_lies 22 = .ok (.iload_n 2, 1) := by decide +kernel
theorem dX3_lies_23 : decode cX3_lies 23 = .ok (.iaload, 1) := by decide +kernel
theorem dX3_lies_24 : decode cX3_lies 24 = .ok (.aload_n 0, 1) := by decide +kernel
theorem dX3_lies_25 : decode cX3_lies 25 = .ok (.getfield 7, 3) := by decide +kernel
theorem dX3_lies_28 : decode cX3_lies 28 = .ok (.aload_n 0, 1) := by decide +kernel
theorem dX3_lies_29 : decode cX3_lies 29 = .ok (.getfield 13, 3) := by decide +kernel
theorem dX3_lies_32 : decode cX3_lies 32 = .ok (.iload_n 2, 1) := by decide +kernel
theorem dX3_lies_33 : decode cX3_lies 33 = .ok (.iaload, 1) := by decide +kernel
theorem dX3_lies_34 : decode cX3_lies 34 = .ok (.iaload, 1) := by decide +kernel
theorem dX3_lies_35 : decode cX3_lies 35 = .ok (.if_icmp .ge 9, 3) := by decide +kernel
theorem dX3_lies_38 : decode cX3_lies 38 = .ok (.iconst 1, 1) := by decide +kernel
theorem dX3_lies_39 : decode cX3_lies 39 = .ok (.iload_n 2, 1) := by decide +kernel
theorem dX3_lies_40 : decode cX3_lies 40 = .ok (.ishl, 1) := by decide +kernel
theorem dX3_lies_41 : decode cX3_lies 41 = .ok (.goto 4, 3) := by decide +kernel
theorem dX3_lies_44 : decode cX3_lies 44 = .ok (.iconst 0, 1) := by decide +kernel
theorem dX3_lies_45 : decode cX3_lies 45 = .ok (.ior, 1) := by decide +kernel
theorem dX3_lies_46 : decode cX3_lies 46 = .ok (.istore_n 1, 1) := by decide +kernel
theorem dX3_lies_47 : decode cX3_lies 47 = .ok (.iinc 2 1, 3) := by decide +kernel
theorem dX3_lies_50 : decode cX3_lies 50 = .ok (.goto (-41), 3) := by decide +kernel
theorem dX3_lies_53 : decode cX3_lies 53 = .ok (.iload_n 1, 1) := by decide +kernel
theorem dX3_lies_54 : decode cX3_lies 54 = .ok (.ireturn, 1) := by decide +kernel
theorem dX3_asked_0 : decode cX3_asked 0 = .ok (.aload_n 0, 1) := by decide +kernel
theorem dX3_asked_1 : decode cX3_asked 1 = .ok (.iload_n 1, 1) := by decide +kernel
theorem dX3_asked_2 : decode cX3_asked 2 = .ok (.invokestatic 60, 3) := by decide +kernel
theorem dX3_asked_5 : decode cX3_asked 5 = .ok (.ifCond .eq 7, 3) := by decide +kernel
theorem dX3_asked_8 : decode cX3_asked 8 = .ok (.iconst 0, 1) := by decide +kernel
theorem dX3_asked_9 : decode cX3_asked 9 = .ok (.goto 4, 3) := by decide +kernel
theorem dX3_asked_12 : decode cX3_asked 12 = .ok (.iconst 1, 1) := by decide +kernel
theorem dX3_asked_13 : decode cX3_asked 13 = .ok (.invokevirtual 64, 3) := by decide +kernel
theorem dX3_asked_16 : decode cX3_asked 16 = .ok (.ifCond .ne 5, 3) := by decide +kernel
theorem dX3_asked_19 : decode cX3_asked 19 = .ok (.iconst 0, 1) := by decide +kernel
theorem dX3_asked_20 : decode cX3_asked 20 = .ok (.ireturn, 1) := by decide +kernel
theorem dX3_asked_21 : decode cX3_asked 21 = .ok (.aload_n 0, 1) := by decide +kernel
theorem dX3_asked_22 : decode cX3_asked 22 = .ok (.getfield 7, 3) := by decide +kernel
theorem dX3_asked_25 : decode cX3_asked 25 = .ok (.iload_n 1, 1) := by decide +kernel
theorem dX3_asked_26 : decode cX3_asked 26 = .ok (.iaload, 1) := by decide +kernel
theorem dX3_asked_27 : decode cX3_asked 27 = .ok (.aload_n 0, 1) := by decide +kernel
theorem dX3_asked_28 : decode cX3_asked 28 = .ok (.iload_n 1, 1) := by decide +kernel
theorem dX3_asked_29 : decode cX3_asked 29 = .ok (.invokevirtual 88, 3) := by decide +kernel
theorem dX3_asked_32 : decode cX3_asked 32 = .ok (.invokestatic 92, 3) := by decide +kernel
theorem dX3_asked_35 : decode cX3_asked 35 = .ok (.istore_n 2, 1) := by decide +kernel
theorem dX3_asked_36 : decode cX3_asked 36 = .ok (.iconst 0, 1) := by decide +kernel
theorem dX3_asked_37 : decode cX3_asked 37 = .ok (.istore_n 3, 1) := by decide +kernel
theorem dX3_asked_38 : decode cX3_asked 38 = .ok (.iload_n 3, 1) := by decide +kernel
theorem dX3_asked_39 : decode cX3_asked 39 = .ok (.bipush 60, 2) := by decide +kernel
theorem dX3_asked_41 : decode cX3_asked 41 = .ok (.if_icmp .ge 25, 3) := by decide +kernel
theorem dX3_asked_44 : decode cX3_asked 44 = .ok (.iload_n 2, 1) := by decide +kernel
theorem dX3_asked_45 : decode cX3_asked 45 = .ok (.aload_n 0, 1) := by decide +kernel
theorem dX3_asked_46 : decode cX3_asked 46 = .ok (.getfield 37, 3) := by decide +kernel
theorem dX3_asked_49 : decode cX3_asked 49 = .ok (.bipush 60, 2) := by decide +kernel
theorem dX3_asked_51 : decode cX3_asked 51 = .ok (.iload_n 1, 1) := by decide +kernel
theorem dX3_asked_52 : decode cX3_asked 52 = .ok (.imul, 1) := by decide +kernel
theorem dX3_asked_53 : decode cX3_asked 53 = .ok (.iload_n 3, 1) := by decide +kernel
theorem dX3_asked_54 : decode cX3_asked 54 = .ok (.iadd, 1) := by decide +kernel
theorem dX3_asked_55 : decode cX3_asked 55 = .ok (.iaload, 1) := by decide +kernel
theorem dX3_asked_56 : decode cX3_asked 56 = .ok (.invokestatic 92, 3) := by decide +kernel
theorem dX3_asked_59 : decode cX3_asked 59 = .ok (.istore_n 2, 1) := by decide +kernel
theorem dX3_asked_60 : decode cX3_asked 60 = .ok (.iinc 3 1, 3) := by decide +kernel
theorem dX3_asked_63 : decode cX3_asked 63 = .ok (.goto (-25), 3) := by decide +kernel
theorem dX3_asked_66 : decode cX3_asked 66 = .ok (.iload_n 2, 1) := by decide +kernel
theorem dX3_asked_67 : decode cX3_asked 67 = .ok (.ireturn, 1) := by decide +kernel
theorem dX3_leastEver_0 : decode cX3_leastEver 0 = .ok (.aload_n 0, 1) := by decide +kernel
theorem dX3_leastEver_1 : decode cX3_leastEver 1 = .ok (.iload_n 1, 1) := by decide +kernel
theorem dX3_leastEver_2 : decode cX3_leastEver 2 = .ok (.invokestatic 60, 3) := by decide +kernel
theorem dX3_leastEver_5 : decode cX3_leastEver 5 = .ok (.ifCond .eq 7, 3) := by decide +kernel
theorem dX3_leastEver_8 : decode cX3_leastEver 8 = .ok (.iconst 0, 1) := by decide +kernel
theorem dX3_leastEver_9 : decode cX3_leastEver 9 = .ok (.goto 4, 3) := by decide +kernel
theorem dX3_leastEver_12 : decode cX3_leastEver 12 = .ok (.iconst 1, 1) := by decide +kernel
theorem dX3_leastEver_13 : decode cX3_leastEver 13 = .ok (.invokevirtual 64, 3) := by decide +kernel
theorem dX3_leastEver_16 : decode cX3_leastEver 16 = .ok (.ifCond .eq 20, 3) := by decide +kernel
theorem dX3_leastEver_19 : decode cX3_leastEver 19 = .ok (.aload_n 0, 1) := by decide +kernel
theorem dX3_leastEver_20 : decode cX3_leastEver 20 = .ok (.getfield 40, 3) := by decide +kernel
theorem dX3_leastEver_23 : decode cX3_leastEver 23 = .ok (.iload_n 1, 1) := by decide +kernel
theorem dX3_leastEver_24 : decode cX3_leastEver 24 = .ok (.iaload, 1) := by decide +kernel
theorem dX3_leastEver_25 : decode cX3_leastEver 25 = .ok (.aload_n 0, 1) := by decide +kernel
theorem dX3_leastEver_26 : decode cX3_leastEver 26 = .ok (.iload_n 1, 1) := by decide +kernel
theorem dX3_leastEver_27 : decode cX3_leastEver 27 = .ok (.invokevirtual 88, 3) := by decide +kernel
theorem dX3_leastEver_30 : decode cX3_leastEver 30 = .ok (.invokestatic 92, 3) := by decide +kernel
theorem dX3_leastEver_33 : decode cX3_leastEver 33 = .ok (.goto 4, 3) := by decide +kernel
theorem dX3_leastEver_36 : decode cX3_leastEver 36 = .ok (.iconst 0, 1) := by decide +kernel
theorem dX3_leastEver_37 : decode cX3_leastEver 37 = .ok (.ireturn, 1) := by decide +kernel
end
section
/-! decode rows (printed): the law -/
theorem dL_setPrice_0 : decode cL_setPrice 0 = .ok (.aload_n 3, 1) := by decide +kernel
theorem dL_setPrice_1 : decode cL_setPrice 1 = .ok (.iconst 0, 1) := by decide +kernel
theorem dL_setPrice_2 : decode cL_setPrice 2 = .ok (.aload_n 0, 1) := by decide +kernel
theorem dL_setPrice_3 : decode cL_setPrice 3 = .ok (.iload_n 1, 1) := by decide +kernel
theorem dL_setPrice_4 : decode cL_setPrice 4 = .ok (.iload_n 2, 1) := by decide +kernel
theorem dL_setPrice_5 : decode cL_setPrice 5 = .ok (.invokevirtual 7, 3) := by decide +kernel
theorem dL_setPrice_8 : decode cL_setPrice 8 = .ok (.i2l, 1) := by decide +kernel
theorem dL_setPrice_9 : decode cL_setPrice 9 = .ok (.lastore, 1) := by decide +kernel
theorem dL_setPrice_10 : decode cL_setPrice 10 = .ok (.goto 11, 3) := by decide +kernel
theorem dL_setPrice_13 : decode cL_setPrice 13 = .ok (.astore 4, 2) := by decide +kernel
theorem dL_setPrice_15 : decode cL_setPrice 15 = .ok (.iconst 1, 1) := by decide +kernel
theorem dL_setPrice_16 : decode cL_setPrice 16 = .ok (.ireturn, 1) := by decide +kernel
theorem dL_setPrice_17 : decode cL_setPrice 17 = .ok (.astore 4, 2) := by decide +kernel
theorem dL_setPrice_19 : decode cL_setPrice 19 = .ok (.iconst 2, 1) := by decide +kernel
theorem dL_setPrice_20 : decode cL_setPrice 20 = .ok (.ireturn, 1) := by decide +kernel
theorem dL_setPrice_21 : decode cL_setPrice 21 = .ok (.iconst 0, 1) := by decide +kernel
theorem dL_setPrice_22 : decode cL_setPrice 22 = .ok (.ireturn, 1) := by decide +kernel
theorem dL_price_0 : decode cL_price 0 = .ok (.aload_n 2, 1) := by decide +kernel
theorem dL_price_1 : decode cL_price 1 = .ok (.iconst 0, 1) := by decide +kernel
theorem dL_price_2 : decode cL_price 2 = .ok (.aload_n 0, 1) := by decide +kernel
theorem dL_price_3 : decode cL_price 3 = .ok (.iload_n 1, 1) := by decide +kernel
theorem dL_price_4 : decode cL_price 4 = .ok (.invokevirtual 17, 3) := by decide +kernel
theorem dL_price_7 : decode cL_price 7 = .ok (.i2l, 1) := by decide +kernel
theorem dL_price_8 : decode cL_price 8 = .ok (.lastore, 1) := by decide +kernel
theorem dL_price_9 : decode cL_price 9 = .ok (.goto 6, 3) := by decide +kernel
theorem dL_price_12 : decode cL_price 12 = .ok (.astore_n 3, 1) := by decide +kernel
theorem dL_price_13 : decode cL_price 13 = .ok (.iconst 1, 1) := by decide +kernel
theorem dL_price_14 : decode cL_price 14 = .ok (.ireturn, 1) := by decide +kernel
theorem dL_price_15 : decode cL_price 15 = .ok (.iconst 0, 1) := by decide +kernel
theorem dL_price_16 : decode cL_price 16 = .ok (.ireturn, 1) := by decide +kernel
theorem dL_hang_0 : decode cL_hang 0 = .ok (.aload_n 2, 1) := by decide +kernel
theorem dL_hang_1 : decode cL_hang 1 = .ok (.iconst 0, 1) := by decide +kernel
theorem dL_hang_2 : decode cL_hang 2 = .ok (.aload_n 0, 1) := by decide +kernel
theorem dL_hang_3 : decode cL_hang 3 = .ok (.iload_n 1, 1) := by decide +kernel
theorem dL_hang_4 : decode cL_hang 4 = .ok (.invokevirtual 21, 3) := by decide +kernel
theorem dL_hang_7 : decode cL_hang 7 = .ok (.i2l, 1) := by decide +kernel
theorem dL_hang_8 : decode cL_hang 8 = .ok (.lastore, 1) := by decide +kernel
theorem dL_hang_9 : decode cL_hang 9 = .ok (.goto 9, 3) := by decide +kernel
theorem dL_hang_12 : decode cL_hang 12 = .ok (.astore_n 3, 1) := by decide +kernel
theorem dL_hang_13 : decode cL_hang 13 = .ok (.iconst 1, 1) := by decide +kernel
theorem dL_hang_14 : decode cL_hang 14 = .ok (.ireturn, 1) := by decide +kernel
theorem dL_hang_15 : decode cL_hang 15 = .ok (.astore_n 3, 1) := by decide +kernel
theorem dL_hang_16 : decode cL_hang 16 = .ok (.iconst 2, 1) := by decide +kernel
theorem dL_hang_17 : decode cL_hang 17 = .ok (.ireturn, 1) := by decide +kernel
theorem dL_hang_18 : decode cL_hang 18 = .ok (.iconst 0, 1) := by decide +kernel
theorem dL_hang_19 : decode cL_hang 19 = .ok (.ireturn, 1) := by decide +kernel
theorem dL_carry_0 : decode cL_carry 0 = .ok (.aload_n 3, 1) := by decide +kernel
theorem dL_carry_1 : decode cL_carry 1 = .ok (.iconst 0, 1) := by decide +kernel
theorem dL_carry_2 : decode cL_carry 2 = .ok (.aload_n 0, 1) := by decide +kernel
theorem dL_carry_3 : decode cL_carry 3 = .ok (.iload_n 1, 1) := by decide +kernel
theorem dL_carry_4 : decode cL_carry 4 = .ok (.iload_n 2, 1) := by decide +kernel
theorem dL_carry_5 : decode cL_carry 5 = .ok (.invokevirtual 26, 3) := by decide +kernel
theorem dL_carry_8 : decode cL_carry 8 = .ok (.ifCond .eq 7, 3) := by decide +kernel
theorem dL_carry_11 : decode cL_carry 11 = .ok (.lconst 1, 1) := by decide +kernel
theorem dL_carry_12 : decode cL_carry 12 = .ok (.goto 4, 3) := by decide +kernel
theorem dL_carry_15 : decode cL_carry 15 = .ok (.lconst 0, 1) := by decide +kernel
theorem dL_carry_16 : decode cL_carry 16 = .ok (.lastore, 1) := by decide +kernel
theorem dL_carry_17 : decode cL_carry 17 = .ok (.goto 11, 3) := by decide +kernel
theorem dL_carry_20 : decode cL_carry 20 = .ok (.astore 4, 2) := by decide +kernel
theorem dL_carry_22 : decode cL_carry 22 = .ok (.iconst 1, 1) := by decide +kernel
theorem dL_carry_23 : decode cL_carry 23 = .ok (.ireturn, 1) := by decide +kernel
theorem dL_carry_24 : decode cL_carry 24 = .ok (.astore 4, 2) := by decide +kernel
theorem dL_carry_26 : decode cL_carry 26 = .ok (.iconst 2, 1) := by decide +kernel
theorem dL_carry_27 : decode cL_carry 27 = .ok (.ireturn, 1) := by decide +kernel
theorem dL_carry_28 : decode cL_carry 28 = .ok (.iconst 0, 1) := by decide +kernel
theorem dL_carry_29 : decode cL_carry 29 = .ok (.ireturn, 1) := by decide +kernel
theorem dL_charge_0 : decode cL_charge 0 = .ok (.aload_n 2, 1) := by decide +kernel
theorem dL_charge_1 : decode cL_charge 1 = .ok (.iconst 0, 1) := by decide +kernel
theorem dL_charge_2 : decode cL_charge 2 = .ok (.aload_n 0, 1) := by decide +kernel
theorem dL_charge_3 : decode cL_charge 3 = .ok (.iload_n 1, 1) := by decide +kernel
theorem dL_charge_4 : decode cL_charge 4 = .ok (.invokevirtual 30, 3) := by decide +kernel
theorem dL_charge_7 : decode cL_charge 7 = .ok (.i2l, 1) := by decide +kernel
theorem dL_charge_8 : decode cL_charge 8 = .ok (.lastore, 1) := by decide +kernel
theorem dL_charge_9 : decode cL_charge 9 = .ok (.goto 6, 3) := by decide +kernel
theorem dL_charge_12 : decode cL_charge 12 = .ok (.astore_n 3, 1) := by decide +kernel
theorem dL_charge_13 : decode cL_charge 13 = .ok (.iconst 1, 1) := by decide +kernel
theorem dL_charge_14 : decode cL_charge 14 = .ok (.ireturn, 1) := by decide +kernel
theorem dL_charge_15 : decode cL_charge 15 = .ok (.iconst 0, 1) := by decide +kernel
theorem dL_charge_16 : decode cL_charge 16 = .ok (.ireturn, 1) := by decide +kernel
theorem dL_loseSendings_0 : decode cL_loseSendings 0 = .ok (.aload_n 3, 1) := by decide +kernel
theorem dL_loseSendings_1 : decode cL_loseSendings 1 = .ok (.iconst 0, 1) := by decide +kernel
theorem dL_loseSendings_2 : decode cL_loseSendings 2 = .ok (.aload_n 0, 1) := by decide +kernel
theorem dL_loseSendings_3 : decode cL_loseSendings 3 = .ok (.iload_n 1, 1) := by decide +kernel
theorem dL_loseSendings_4 : decode cL_loseSendings 4 = .ok (.iload_n 2, 1) := by decide +kernel
theorem dL_loseSendings_5 : decode cL_loseSendings 5 = .ok (.invokevirtual 33, 3) := by decide +kernel
theorem dL_loseSendings_8 : decode cL_loseSendings 8 = .ok (.i2l, 1) := by decide +kernel
theorem dL_loseSendings_9 : decode cL_loseSendings 9 = .ok (.lastore, 1) := by decide +kernel
theorem dL_loseSendings_10 : decode cL_loseSendings 10 = .ok (.goto 11, 3) := by decide +kernel
theorem dL_loseSendings_13 : decode cL_loseSendings 13 = .ok (.astore 4, 2) := by decide +kernel
theorem dL_loseSendings_15 : decode cL_loseSendings 15 = .ok (.iconst 1, 1) := by decide +kernel
theorem dL_loseSendings_16 : decode cL_loseSendings 16 = .ok (.ireturn, 1) := by decide +kernel
theorem dL_loseSendings_17 : decode cL_loseSendings 17 = .ok (.astore 4, 2) := by decide +kernel
theorem dL_loseSendings_19 : decode cL_loseSendings 19 = .ok (.iconst 2, 1) := by decide +kernel
theorem dL_loseSendings_20 : decode cL_loseSendings 20 = .ok (.ireturn, 1) := by decide +kernel
theorem dL_loseSendings_21 : decode cL_loseSendings 21 = .ok (.iconst 0, 1) := by decide +kernel
theorem dL_loseSendings_22 : decode cL_loseSendings 22 = .ok (.ireturn, 1) := by decide +kernel
theorem dL_loseAnswers_0 : decode cL_loseAnswers 0 = .ok (.aload_n 3, 1) := by decide +kernel
theorem dL_loseAnswers_1 : decode cL_loseAnswers 1 = .ok (.iconst 0, 1) := by decide +kernel
theorem dL_loseAnswers_2 : decode cL_loseAnswers 2 = .ok (.aload_n 0, 1) := by decide +kernel
theorem dL_loseAnswers_3 : decode cL_loseAnswers 3 = .ok (.iload_n 1, 1) := by decide +kernel
theorem dL_loseAnswers_4 : decode cL_loseAnswers 4 = .ok (.iload_n 2, 1) := by decide +kernel
theorem dL_loseAnswers_5 : decode cL_loseAnswers 5 = .ok (.invokevirtual 36, 3) := by decide +kernel
theorem dL_loseAnswers_8 : decode cL_loseAnswers 8 = .ok (.i2l, 1) := by decide +kernel
theorem dL_loseAnswers_9 : decode cL_loseAnswers 9 = .ok (.lastore, 1) := by decide +kernel
theorem dL_loseAnswers_10 : decode cL_loseAnswers 10 = .ok (.goto 11, 3) := by decide +kernel
theorem dL_loseAnswers_13 : decode cL_loseAnswers 13 = .ok (.astore 4, 2) := by decide +kernel
theorem dL_loseAnswers_15 : decode cL_loseAnswers 15 = .ok (.iconst 1, 1) := by decide +kernel
theorem dL_loseAnswers_16 : decode cL_loseAnswers 16 = .ok (.ireturn, 1) := by decide +kernel
theorem dL_loseAnswers_17 : decode cL_loseAnswers 17 = .ok (.astore 4, 2) := by decide +kernel
theorem dL_loseAnswers_19 : decode cL_loseAnswers 19 = .ok (.iconst 2, 1) := by decide +kernel
theorem dL_loseAnswers_20 : decode cL_loseAnswers 20 = .ok (.ireturn, 1) := by decide +kernel
theorem dL_loseAnswers_21 : decode cL_loseAnswers 21 = .ok (.iconst 0, 1) := by decide +kernel
theorem dL_loseAnswers_22 : decode cL_loseAnswers 22 = .ok (.ireturn, 1) := by decide +kernel
theorem dL_pass_0 : decode cL_pass 0 = .ok (.aload_n 2, 1) := by decide +kernel
theorem dL_pass_1 : decode cL_pass 1 = .ok (.iconst 0, 1) := by decide +kernel
theorem dL_pass_2 : decode cL_pass 2 = .ok (.aload_n 0, 1) := by decide +kernel
theorem dL_pass_3 : decode cL_pass 3 = .ok (.iload_n 1, 1) := by decide +kernel
theorem dL_pass_4 : decode cL_pass 4 = .ok (.invokevirtual 39, 3) := by decide +kernel
theorem dL_pass_7 : decode cL_pass 7 = .ok (.i2l, 1) := by decide +kernel
theorem dL_pass_8 : decode cL_pass 8 = .ok (.lastore, 1) := by decide +kernel
theorem dL_pass_9 : decode cL_pass 9 = .ok (.goto 9, 3) := by decide +kernel
theorem dL_pass_12 : decode cL_pass 12 = .ok (.astore_n 3, 1) := by decide +kernel
theorem dL_pass_13 : decode cL_pass 13 = .ok (.iconst 1, 1) := by decide +kernel
theorem dL_pass_14 : decode cL_pass 14 = .ok (.ireturn, 1) := by decide +kernel
theorem dL_pass_15 : decode cL_pass 15 = .ok (.astore_n 3, 1) := by decide +kernel
theorem dL_pass_16 : decode cL_pass 16 = .ok (.iconst 2, 1) := by decide +kernel
theorem dL_pass_17 : decode cL_pass 17 = .ok (.ireturn, 1) := by decide +kernel
theorem dL_pass_18 : decode cL_pass 18 = .ok (.iconst 0, 1) := by decide +kernel
theorem dL_pass_19 : decode cL_pass 19 = .ok (.ireturn, 1) := by decide +kernel
theorem dL_order_0 : decode cL_order 0 = .ok (.aload_n 2, 1) := by decide +kernel
theorem dL_order_1 : decode cL_order 1 = .ok (.iconst 0, 1) := by decide +kernel
theorem dL_order_2 : decode cL_order 2 = .ok (.aload_n 0, 1) := by decide +kernel
theorem dL_order_3 : decode cL_order 3 = .ok (.iload_n 1, 1) := by decide +kernel
theorem dL_order_4 : decode cL_order 4 = .ok (.invokevirtual 42, 3) := by decide +kernel
theorem dL_order_7 : decode cL_order 7 = .ok (.i2l, 1) := by decide +kernel
theorem dL_order_8 : decode cL_order 8 = .ok (.lastore, 1) := by decide +kernel
theorem dL_order_9 : decode cL_order 9 = .ok (.goto 6, 3) := by decide +kernel
theorem dL_order_12 : decode cL_order 12 = .ok (.astore_n 3, 1) := by decide +kernel
theorem dL_order_13 : decode cL_order 13 = .ok (.iconst 1, 1) := by decide +kernel
theorem dL_order_14 : decode cL_order 14 = .ok (.ireturn, 1) := by decide +kernel
theorem dL_order_15 : decode cL_order 15 = .ok (.iconst 0, 1) := by decide +kernel
theorem dL_order_16 : decode cL_order 16 = .ok (.ireturn, 1) := by decide +kernel
theorem dL_shown_0 : decode cL_shown 0 = .ok (.aload_n 2, 1) := by decide +kernel
theorem dL_shown_1 : decode cL_shown 1 = .ok (.iconst 0, 1) := by decide +kernel
theorem dL_shown_2 : decode cL_shown 2 = .ok (.aload_n 0, 1) := by decide +kernel
theorem dL_shown_3 : decode cL_shown 3 = .ok (.iload_n 1, 1) := by decide +kernel
theorem dL_shown_4 : decode cL_shown 4 = .ok (.invokevirtual 45, 3) := by decide +kernel
theorem dL_shown_7 : decode cL_shown 7 = .ok (.i2l, 1) := by decide +kernel
theorem dL_shown_8 : decode cL_shown 8 = .ok (.lastore, 1) := by decide +kernel
theorem dL_shown_9 : decode cL_shown 9 = .ok (.goto 6, 3) := by decide +kernel
theorem dL_shown_12 : decode cL_shown 12 = .ok (.astore_n 3, 1) := by decide +kernel
theorem dL_shown_13 : decode cL_shown 13 = .ok (.iconst 1, 1) := by decide +kernel
theorem dL_shown_14 : decode cL_shown 14 = .ok (.ireturn, 1) := by decide +kernel
theorem dL_shown_15 : decode cL_shown 15 = .ok (.iconst 0, 1) := by decide +kernel
theorem dL_shown_16 : decode cL_shown 16 = .ok (.ireturn, 1) := by decide +kernel
theorem dL_ghosts_0 : decode cL_ghosts 0 = .ok (.aload_n 2, 1) := by decide +kernel
theorem dL_ghosts_1 : decode cL_ghosts 1 = .ok (.iconst 0, 1) := by decide +kernel
theorem dL_ghosts_2 : decode cL_ghosts 2 = .ok (.aload_n 0, 1) := by decide +kernel
theorem dL_ghosts_3 : decode cL_ghosts 3 = .ok (.iload_n 1, 1) := by decide +kernel
theorem dL_ghosts_4 : decode cL_ghosts 4 = .ok (.invokevirtual 48, 3) := by decide +kernel
theorem dL_ghosts_7 : decode cL_ghosts 7 = .ok (.i2l, 1) := by decide +kernel
theorem dL_ghosts_8 : decode cL_ghosts 8 = .ok (.lastore, 1) := by decide +kernel
theorem dL_ghosts_9 : decode cL_ghosts 9 = .ok (.goto 6, 3) := by decide +kernel
theorem dL_ghosts_12 : decode cL_ghosts 12 = .ok (.astore_n 3, 1) := by decide +kernel
theorem dL_ghosts_13 : decode cL_ghosts 13 = .ok (.iconst 1, 1) := by decide +kernel
theorem dL_ghosts_14 : decode cL_ghosts 14 = .ok (.ireturn, 1) := by decide +kernel
theorem dL_ghosts_15 : decode cL_ghosts 15 = .ok (.iconst 0, 1) := by decide +kernel
theorem dL_ghosts_16 : decode cL_ghosts 16 = .ok (.ireturn, 1) := by decide +kernel
theorem dL_battery_0 : decode cL_battery 0 = .ok (.aload_n 2, 1) := by decide +kernel
theorem dL_battery_1 : decode cL_battery 1 = .ok (.iconst 0, 1) := by decide +kernel
theorem dL_battery_2 : decode cL_battery 2 = .ok (.aload_n 0, 1) := by decide +kernel
theorem dL_battery_3 : decode cL_battery 3 = .ok (.iload_n 1, 1) := by decide +kernel
theorem dL_battery_4 : decode cL_battery 4 = .ok (.invokevirtual 51, 3) := by decide +kernel
theorem dL_battery_7 : decode cL_battery 7 = .ok (.i2l, 1) := by decide +kernel
theorem dL_battery_8 : decode cL_battery 8 = .ok (.lastore, 1) := by decide +kernel
theorem dL_battery_9 : decode cL_battery 9 = .ok (.goto 6, 3) := by decide +kernel
theorem dL_battery_12 : decode cL_battery 12 = .ok (.astore_n 3, 1) := by decide +kernel
theorem dL_battery_13 : decode cL_battery 13 = .ok (.iconst 1, 1) := by decide +kernel
theorem dL_battery_14 : decode cL_battery 14 = .ok (.ireturn, 1) := by decide +kernel
theorem dL_battery_15 : decode cL_battery 15 = .ok (.iconst 0, 1) := by decide +kernel
theorem dL_battery_16 : decode cL_battery 16 = .ok (.ireturn, 1) := by decide +kernel
theorem dL_asked_0 : decode cL_asked 0 = .ok (.aload_n 2, 1) := by decide +kernel
theorem dL_asked_1 : decode cL_asked 1 = .ok (.iconst 0, 1) := by decide +kernel
theorem dL_asked_2 : decode cL_asked 2 = .ok (.aload_n 0, 1) := by decide +kernel
theorem dL_asked_3 : decode cL_asked 3 = .ok (.iload_n 1, 1) := by decide +kernel
theorem dL_asked_4 : decode cL_asked 4 = .ok (.invokevirtual 54, 3) := by decide +kernel
theorem dL_asked_7 : decode cL_asked 7 = .ok (.i2l, 1) := by decide +kernel
theorem dL_asked_8 : decode cL_asked 8 = .ok (.lastore, 1) := by decide +kernel
theorem dL_asked_9 : decode cL_asked 9 = .ok (.goto 6, 3) := by decide +kernel
theorem dL_asked_12 : decode cL_asked 12 = .ok (.astore_n 3, 1) := by decide +kernel
theorem dL_asked_13 : decode cL_asked 13 = .ok (.iconst 1, 1) := by decide +kernel
theorem dL_asked_14 : decode cL_asked 14 = .ok (.ireturn, 1) := by decide +kernel
theorem dL_asked_15 : decode cL_asked 15 = .ok (.iconst 0, 1) := by decide +kernel
theorem dL_asked_16 : decode cL_asked 16 = .ok (.ireturn, 1) := by decide +kernel
theorem dL_leastEver_0 : decode cL_leastEver 0 = .ok (.aload_n 2, 1) := by decide +kernel
theorem dL_leastEver_1 : decode cL_leastEver 1 = .ok (.iconst 0, 1) := by decide +kernel
theorem dL_leastEver_2 : decode cL_leastEver 2 = .ok (.aload_n 0, 1) := by decide +kernel
theorem dL_leastEver_3 : decode cL_leastEver 3 = .ok (.iload_n 1, 1) := by decide +kernel
theorem dL_leastEver_4 : decode cL_leastEver 4 = .ok (.invokevirtual 57, 3) := by decide +kernel
theorem dL_leastEver_7 : decode cL_leastEver 7 = .ok (.i2l, 1) := by decide +kernel
theorem dL_leastEver_8 : decode cL_leastEver 8 = .ok (.lastore, 1) := by decide +kernel
theorem dL_leastEver_9 : decode cL_leastEver 9 = .ok (.goto 6, 3) := by decide +kernel
theorem dL_leastEver_12 : decode cL_leastEver 12 = .ok (.astore_n 3, 1) := by decide +kernel
theorem dL_leastEver_13 : decode cL_leastEver 13 = .ok (.iconst 1, 1) := by decide +kernel
theorem dL_leastEver_14 : decode cL_leastEver 14 = .ok (.ireturn, 1) := by decide +kernel
theorem dL_leastEver_15 : decode cL_leastEver 15 = .ok (.iconst 0, 1) := by decide +kernel
theorem dL_leastEver_16 : decode cL_leastEver 16 = .ok (.ireturn, 1) := by decide +kernel
theorem dL_law_0 : decode cL_law 0 = .ok (.new 8, 3) := by decide +kernel
theorem dL_law_3 : decode cL_law 3 = .ok (.dup, 1) := by decide +kernel
theorem dL_law_4 : decode cL_law 4 = .ok (.invokespecial 60, 3) := by decide +kernel
theorem dL_law_7 : decode cL_law 7 = .ok (.astore_n 1, 1) := by decide +kernel
theorem dL_law_8 : decode cL_law 8 = .ok (.new 61, 3) := by decide +kernel
theorem dL_law_11 : decode cL_law 11 = .ok (.dup, 1) := by decide +kernel
theorem dL_law_12 : decode cL_law 12 = .ok (.invokespecial 63, 3) := by decide +kernel
theorem dL_law_15 : decode cL_law 15 = .ok (.astore_n 2, 1) := by decide +kernel
theorem dL_law_16 : decode cL_law 16 = .ok (.iconst 1, 1) := by decide +kernel
theorem dL_law_17 : decode cL_law 17 = .ok (.newarray .long, 2) := by decide +kernel
theorem dL_law_19 : decode cL_law 19 = .ok (.astore_n 3, 1) := by decide +kernel
theorem dL_law_20 : decode cL_law 20 = .ok (.iconst 0, 1) := by decide +kernel
theorem dL_law_21 : decode cL_law 21 = .ok (.istore 4, 2) := by decide +kernel
theorem dL_law_23 : decode cL_law 23 = .ok (.iload 4, 2) := by decide +kernel
theorem dL_law_25 : decode cL_law 25 = .ok (.aload_n 0, 1) := by decide +kernel
theorem dL_law_26 : decode cL_law 26 = .ok (.arraylength, 1) := by decide +kernel
theorem dL_law_27 : decode cL_law 27 = .ok (.iconst 3, 1) := by decide +kernel
theorem dL_law_28 : decode cL_law 28 = .ok (.isub, 1) := by decide +kernel
theorem dL_law_29 : decode cL_law 29 = .ok (.if_icmp .gt 992, 3) := by decide +kernel
theorem dL_law_32 : decode cL_law 32 = .ok (.aload_n 0, 1) := by decide +kernel
theorem dL_law_33 : decode cL_law 33 = .ok (.iload 4, 2) := by decide +kernel
theorem dL_law_35 : decode cL_law 35 = .ok (.iaload, 1) := by decide +kernel
theorem dL_law_36 : decode cL_law 36 = .ok (.bipush 31, 2) := by decide +kernel
theorem dL_law_38 : decode cL_law 38 = .ok (.iand, 1) := by decide +kernel
theorem dL_law_39 : decode cL_law 39 = .ok (.tableswitch 976 0 17 #[85, 153, 209, 265, 340, 396, 464, 532, 588, 601, 657, 670, 683, 739, 795, 851, 864, 920], 85) := by decide +kernel
theorem dL_law_124 : decode cL_law 124 = .ok (.aload_n 1, 1) := by decide +kernel
theorem dL_law_125 : decode cL_law 125 = .ok (.aload_n 0, 1) := by decide +kernel
theorem dL_law_126 : decode cL_law 126 = .ok (.iload 4, 2) := by decide +kernel
theorem dL_law_128 : decode cL_law 128 = .ok (.iconst 1, 1) := by decide +kernel
theorem dL_law_129 : decode cL_law 129 = .ok (.iadd, 1) := by decide +kernel
theorem dL_law_130 : decode cL_law 130 = .ok (.iaload, 1) := by decide +kernel
theorem dL_law_131 : decode cL_law 131 = .ok (.aload_n 0, 1) := by decide +kernel
theorem dL_law_132 : decode cL_law 132 = .ok (.iload 4, 2) := by decide +kernel
theorem dL_law_134 : decode cL_law 134 = .ok (.iconst 2, 1) := by decide +kernel
theorem dL_law_135 : decode cL_law 135 = .ok (.iadd, 1) := by decide +kernel
theorem dL_law_136 : decode cL_law 136 = .ok (.iaload, 1) := by decide +kernel
theorem dL_law_137 : decode cL_law 137 = .ok (.aload_n 3, 1) := by decide +kernel
theorem dL_law_138 : decode cL_law 138 = .ok (.invokestatic 64, 3) := by decide +kernel
theorem dL_law_141 : decode cL_law 141 = .ok (.istore 5, 2) := by decide +kernel
theorem dL_law_143 : decode cL_law 143 = .ok (.aload_n 2, 1) := by decide +kernel
theorem dL_law_144 : decode cL_law 144 = .ok (.aload_n 0, 1) := by decide +kernel
theorem dL_law_145 : decode cL_law 145 = .ok (.iload 4, 2) := by decide +kernel
theorem dL_law_147 : decode cL_law 147 = .ok (.iconst 1, 1) := by decide +kernel
theorem dL_law_148 : decode cL_law 148 = .ok (.iadd, 1) := by decide +kernel
theorem dL_law_149 : decode cL_law 149 = .ok (.iaload, 1) := by decide +kernel
theorem dL_law_150 : decode cL_law 150 = .ok (.aload_n 0, 1) := by decide +kernel
theorem dL_law_151 : decode cL_law 151 = .ok (.iload 4, 2) := by decide +kernel
theorem dL_law_153 : decode cL_law 153 = .ok (.iconst 2, 1) := by decide +kernel
theorem dL_law_154 : decode cL_law 154 = .ok (.iadd, 1) := by decide +kernel
theorem dL_law_155 : decode cL_law 155 = .ok (.iaload, 1) := by decide +kernel
theorem dL_law_156 : decode cL_law 156 = .ok (.invokevirtual 69, 3) := by decide +kernel
theorem dL_law_159 : decode cL_law 159 = .ok (.istore 6, 2) := by decide +kernel
theorem dL_law_161 : decode cL_law 161 = .ok (.aload_n 2, 1) := by decide +kernel
theorem dL_law_162 : decode cL_law 162 = .ok (.invokevirtual 70, 3) := by decide +kernel
theorem dL_law_165 : decode cL_law 165 = .ok (.iload 5, 2) := by decide +kernel
theorem dL_law_167 : decode cL_law 167 = .ok (.if_icmp .eq 5, 3) := by decide +kernel
theorem dL_law_170 : decode cL_law 170 = .ok (.iconst 0, 1) := by decide +kernel
theorem dL_law_171 : decode cL_law 171 = .ok (.ireturn, 1) := by decide +kernel
theorem dL_law_172 : decode cL_law 172 = .ok (.iload 5, 2) := by decide +kernel
theorem dL_law_174 : decode cL_law 174 = .ok (.ifCond .ne 15, 3) := by decide +kernel
theorem dL_law_177 : decode cL_law 177 = .ok (.aload_n 3, 1) := by decide +kernel
theorem dL_law_178 : decode cL_law 178 = .ok (.iconst 0, 1) := by decide +kernel
theorem dL_law_179 : decode cL_law 179 = .ok (.laload, 1) := by decide +kernel
theorem dL_law_180 : decode cL_law 180 = .ok (.iload 6, 2) := by decide +kernel
theorem dL_law_182 : decode cL_law 182 = .ok (.i2l, 1) := by decide +kernel
theorem dL_law_183 : decode cL_law 183 = .ok (.lcmp, 1) := by decide +kernel
theorem dL_law_184 : decode cL_law 184 = .ok (.ifCond .eq 5, 3) := by decide +kernel
theorem dL_law_187 : decode cL_law 187 = .ok (.iconst 0, 1) := by decide +kernel
theorem dL_law_188 : decode cL_law 188 = .ok (.ireturn, 1) := by decide +kernel
theorem dL_law_189 : decode cL_law 189 = .ok (.goto 826, 3) := by decide +kernel
theorem dL_law_192 : decode cL_law 192 = .ok (.aload_n 1, 1) := by decide +kernel
theorem dL_law_193 : decode cL_law 193 = .ok (.aload_n 0, 1) := by decide +kernel
theorem dL_law_194 : decode cL_law 194 = .ok (.iload 4, 2) := by decide +kernel
theorem dL_law_196 : decode cL_law 196 = .ok (.iconst 1, 1) := by decide +kernel
theorem dL_law_197 : decode cL_law 197 = .ok (.iadd, 1) := by decide +kernel
theorem dL_law_198 : decode cL_law 198 = .ok (.iaload, 1) := by decide +kernel
theorem dL_law_199 : decode cL_law 199 = .ok (.aload_n 3, 1) := by decide +kernel
theorem dL_law_200 : decode cL_law 200 = .ok (.invokestatic 74, 3) := by decide +kernel
theorem dL_law_203 : decode cL_law 203 = .ok (.istore 5, 2) := by decide +kernel
theorem dL_law_205 : decode cL_law 205 = .ok (.aload_n 2, 1) := by decide +kernel
theorem dL_law_206 : decode cL_law 206 = .ok (.aload_n 0, 1) := by decide +kernel
theorem dL_law_207 : decode cL_law 207 = .ok (.iload 4, 2) := by decide +kernel
theorem dL_law_209 : decode cL_law 209 = .ok (.iconst 1, 1) := by decide +kernel
theorem dL_law_210 : decode cL_law 210 = .ok (.iadd, 1) := by decide +kernel
theorem dL_law_211 : decode cL_law 211 = .ok (.iaload, 1) := by decide +kernel
theorem dL_law_212 : decode cL_law 212 = .ok (.invokevirtual 77, 3) := by decide +kernel
theorem dL_law_215 : decode cL_law 215 = .ok (.istore 6, 2) := by decide +kernel
theorem dL_law_217 : decode cL_law 217 = .ok (.aload_n 2, 1) := by decide +kernel
theorem dL_law_218 : decode cL_law 218 = .ok (.invokevirtual 70, 3) := by decide +kernel
theorem dL_law_221 : decode cL_law 221 = .ok (.iload 5, 2) := by decide +kernel
theorem dL_law_223 : decode cL_law 223 = .ok (.if_icmp .eq 5, 3) := by decide +kernel
theorem dL_law_226 : decode cL_law 226 = .ok (.iconst 0, 1) := by decide +kernel
theorem dL_law_227 : decode cL_law 227 = .ok (.ireturn, 1) := by decide +kernel
theorem dL_law_228 : decode cL_law 228 = .ok (.iload 5, 2) := by decide +kernel
theorem dL_law_230 : decode cL_law 230 = .ok (.ifCond .ne 15, 3) := by decide +kernel
theorem dL_law_233 : decode cL_law 233 = .ok (.aload_n 3, 1) := by decide +kernel
theorem dL_law_234 : decode cL_law 234 = .ok (.iconst 0, 1) := by decide +kernel
theorem dL_law_235 : decode cL_law 235 = .ok (.laload, 1) := by decide +kernel
theorem dL_law_236 : decode cL_law 236 = .ok (.iload 6, 2) := by decide +kernel
theorem dL_law_238 : decode cL_law 238 = .ok (.i2l, 1) := by decide +kernel
theorem dL_law_239 : decode cL_law 239 = .ok (.lcmp, 1) := by decide +kernel
theorem dL_law_240 : decode cL_law 240 = .ok (.ifCond .eq 5, 3) := by decide +kernel
theorem dL_law_243 : decode cL_law 243 = .ok (.iconst 0, 1) := by decide +kernel
theorem dL_law_244 : decode cL_law 244 = .ok (.ireturn, 1) := by decide +kernel
theorem dL_law_245 : decode cL_law 245 = .ok (.goto 770, 3) := by decide +kernel
theorem dL_law_248 : decode cL_law 248 = .ok (.aload_n 1, 1) := by decide +kernel
theorem dL_law_249 : decode cL_law 249 = .ok (.aload_n 0, 1) := by decide +kernel
theorem dL_law_250 : decode cL_law 250 = .ok (.iload 4, 2) := by decide +kernel
theorem dL_law_252 : decode cL_law 252 = .ok (.iconst 1, 1) := by decide +kernel
theorem dL_law_253 : decode cL_law 253 = .ok (.iadd, 1) := by decide +kernel
theorem dL_law_254 : decode cL_law 254 = .ok (.iaload, 1) := by decide +kernel
theorem dL_law_255 : decode cL_law 255 = .ok (.aload_n 3, 1) := by decide +kernel
theorem dL_law_256 : decode cL_law 256 = .ok (.invokestatic 78, 3) := by decide +kernel
theorem dL_law_259 : decode cL_law 259 = .ok (.istore 5, 2) := by decide +kernel
theorem dL_law_261 : decode cL_law 261 = .ok (.aload_n 2, 1) := by decide +kernel
theorem dL_law_262 : decode cL_law 262 = .ok (.aload_n 0, 1) := by decide +kernel
theorem dL_law_263 : decode cL_law 263 = .ok (.iload 4, 2) := by decide +kernel
theorem dL_law_265 : decode cL_law 265 = .ok (.iconst 1, 1) := by decide +kernel
theorem dL_law_266 : decode cL_law 266 = .ok (.iadd, 1) := by decide +kernel
theorem dL_law_267 : decode cL_law 267 = .ok (.iaload, 1) := by decide +kernel
theorem dL_law_268 : decode cL_law 268 = .ok (.invokevirtual 80, 3) := by decide +kernel
theorem dL_law_271 : decode cL_law 271 = .ok (.istore 6, 2) := by decide +kernel
theorem dL_law_273 : decode cL_law 273 = .ok (.aload_n 2, 1) := by decide +kernel
theorem dL_law_274 : decode cL_law 274 = .ok (.invokevirtual 70, 3) := by decide +kernel
theorem dL_law_277 : decode cL_law 277 = .ok (.iload 5, 2) := by decide +kernel
theorem dL_law_279 : decode cL_law 279 = .ok (.if_icmp .eq 5, 3) := by decide +kernel
theorem dL_law_282 : decode cL_law 282 = .ok (.iconst 0, 1) := by decide +kernel
theorem dL_law_283 : decode cL_law 283 = .ok (.ireturn, 1) := by decide +kernel
theorem dL_law_284 : decode cL_law 284 = .ok (.iload 5, 2) := by decide +kernel
theorem dL_law_286 : decode cL_law 286 = .ok (.ifCond .ne 15, 3) := by decide +kernel
theorem dL_law_289 : decode cL_law 289 = .ok (.aload_n 3, 1) := by decide +kernel
theorem dL_law_290 : decode cL_law 290 = .ok (.iconst 0, 1) := by decide +kernel
theorem dL_law_291 : decode cL_law 291 = .ok (.laload, 1) := by decide +kernel
theorem dL_law_292 : decode cL_law 292 = .ok (.iload 6, 2) := by decide +kernel
theorem dL_law_294 : decode cL_law 294 = .ok (.i2l, 1) := by decide +kernel
theorem dL_law_295 : decode cL_law 295 = .ok (.lcmp, 1) := by decide +kernel
theorem dL_law_296 : decode cL_law 296 = .ok (.ifCond .eq 5, 3) := by decide +kernel
theorem dL_law_299 : decode cL_law 299 = .ok (.iconst 0, 1) := by decide +kernel
theorem dL_law_300 : decode cL_law 300 = .ok (.ireturn, 1) := by decide +kernel
theorem dL_law_301 : decode cL_law 301 = .ok (.goto 714, 3) := by decide +kernel
theorem dL_law_304 : decode cL_law 304 = .ok (.aload_n 1, 1) := by decide +kernel
theorem dL_law_305 : decode cL_law 305 = .ok (.aload_n 0, 1) := by decide +kernel
theorem dL_law_306 : decode cL_law 306 = .ok (.iload 4, 2) := by decide +kernel
theorem dL_law_308 : decode cL_law 308 = .ok (.iconst 1, 1) := by decide +kernel
theorem dL_law_309 : decode cL_law 309 = .ok (.iadd, 1) := by decide +kernel
theorem dL_law_310 : decode cL_law 310 = .ok (.iaload, 1) := by decide +kernel
theorem dL_law_311 : decode cL_law 311 = .ok (.aload_n 0, 1) := by decide +kernel
theorem dL_law_312 : decode cL_law 312 = .ok (.iload 4, 2) := by decide +kernel
theorem dL_law_314 : decode cL_law 314 = .ok (.iconst 2, 1) := by decide +kernel
theorem dL_law_315 : decode cL_law 315 = .ok (.iadd, 1) := by decide +kernel
theorem dL_law_316 : decode cL_law 316 = .ok (.iaload, 1) := by decide +kernel
theorem dL_law_317 : decode cL_law 317 = .ok (.aload_n 3, 1) := by decide +kernel
theorem dL_law_318 : decode cL_law 318 = .ok (.invokestatic 81, 3) := by decide +kernel
theorem dL_law_321 : decode cL_law 321 = .ok (.istore 5, 2) := by decide +kernel
theorem dL_law_323 : decode cL_law 323 = .ok (.aload_n 2, 1) := by decide +kernel
theorem dL_law_324 : decode cL_law 324 = .ok (.aload_n 0, 1) := by decide +kernel
theorem dL_law_325 : decode cL_law 325 = .ok (.iload 4, 2) := by decide +kernel
theorem dL_law_327 : decode cL_law 327 = .ok (.iconst 1, 1) := by decide +kernel
theorem dL_law_328 : decode cL_law 328 = .ok (.iadd, 1) := by decide +kernel
theorem dL_law_329 : decode cL_law 329 = .ok (.iaload, 1) := by decide +kernel
theorem dL_law_330 : decode cL_law 330 = .ok (.aload_n 0, 1) := by decide +kernel
theorem dL_law_331 : decode cL_law 331 = .ok (.iload 4, 2) := by decide +kernel
theorem dL_law_333 : decode cL_law 333 = .ok (.iconst 2, 1) := by decide +kernel
theorem dL_law_334 : decode cL_law 334 = .ok (.iadd, 1) := by decide +kernel
theorem dL_law_335 : decode cL_law 335 = .ok (.iaload, 1) := by decide +kernel
theorem dL_law_336 : decode cL_law 336 = .ok (.invokevirtual 83, 3) := by decide +kernel
theorem dL_law_339 : decode cL_law 339 = .ok (.istore 6, 2) := by decide +kernel
theorem dL_law_341 : decode cL_law 341 = .ok (.aload_n 2, 1) := by decide +kernel
theorem dL_law_342 : decode cL_law 342 = .ok (.invokevirtual 70, 3) := by decide +kernel
theorem dL_law_345 : decode cL_law 345 = .ok (.iload 5, 2) := by decide +kernel
theorem dL_law_347 : decode cL_law 347 = .ok (.if_icmp .eq 5, 3) := by decide +kernel
theorem dL_law_350 : decode cL_law 350 = .ok (.iconst 0, 1) := by decide +kernel
theorem dL_law_351 : decode cL_law 351 = .ok (.ireturn, 1) := by decide +kernel
theorem dL_law_352 : decode cL_law 352 = .ok (.iload 5, 2) := by decide +kernel
theorem dL_law_354 : decode cL_law 354 = .ok (.ifCond .ne 22, 3) := by decide +kernel
theorem dL_law_357 : decode cL_law 357 = .ok (.aload_n 3, 1) := by decide +kernel
theorem dL_law_358 : decode cL_law 358 = .ok (.iconst 0, 1) := by decide +kernel
theorem dL_law_359 : decode cL_law 359 = .ok (.laload, 1) := by decide +kernel
theorem dL_law_360 : decode cL_law 360 = .ok (.iload 6, 2) := by decide +kernel
theorem dL_law_362 : decode cL_law 362 = .ok (.ifCond .eq 7, 3) := by decide +kernel
theorem dL_law_365 : decode cL_law 365 = .ok (.lconst 1, 1) := by decide +kernel
theorem dL_law_366 : decode cL_law 366 = .ok (.goto 4, 3) := by decide +kernel
theorem dL_law_369 : decode cL_law 369 = .ok (.lconst 0, 1) := by decide +kernel
theorem dL_law_370 : decode cL_law 370 = .ok (.lcmp, 1) := by decide +kernel
theorem dL_law_371 : decode cL_law 371 = .ok (.ifCond .eq 5, 3) := by decide +kernel
theorem dL_law_374 : decode cL_law 374 = .ok (.iconst 0, 1) := by decide +kernel
theorem dL_law_375 : decode cL_law 375 = .ok (.ireturn, 1) := by decide +kernel
theorem dL_law_376 : decode cL_law 376 = .ok (.goto 639, 3) := by decide +kernel
theorem dL_law_379 : decode cL_law 379 = .ok (.aload_n 1, 1) := by decide +kernel
theorem dL_law_380 : decode cL_law 380 = .ok (.aload_n 0, 1) := by decide +kernel
theorem dL_law_381 : decode cL_law 381 = .ok (.iload 4, 2) := by decide +kernel
theorem dL_law_383 : decode cL_law 383 = .ok (.iconst 1, 1) := by decide +kernel
theorem dL_law_384 : decode cL_law 384 = .ok (.iadd, 1) := by decide +kernel
theorem dL_law_385 : decode cL_law 385 = .ok (.iaload, 1) := by decide +kernel
theorem dL_law_386 : decode cL_law 386 = .ok (.aload_n 3, 1) := by decide +kernel
theorem dL_law_387 : decode cL_law 387 = .ok (.invokestatic 84, 3) := by decide +kernel
theorem dL_law_390 : decode cL_law 390 = .ok (.istore 5, 2) := by decide +kernel
theorem dL_law_392 : decode cL_law 392 = .ok (.aload_n 2, 1) := by decide +kernel
theorem dL_law_393 : decode cL_law 393 = .ok (.aload_n 0, 1) := by decide +kernel
theorem dL_law_394 : decode cL_law 394 = .ok (.iload 4, 2) := by decide +kernel
theorem dL_law_396 : decode cL_law 396 = .ok (.iconst 1, 1) := by decide +kernel
theorem dL_law_397 : decode cL_law 397 = .ok (.iadd, 1) := by decide +kernel
theorem dL_law_398 : decode cL_law 398 = .ok (.iaload, 1) := by decide +kernel
theorem dL_law_399 : decode cL_law 399 = .ok (.invokevirtual 86, 3) := by decide +kernel
theorem dL_law_402 : decode cL_law 402 = .ok (.istore 6, 2) := by decide +kernel
theorem dL_law_404 : decode cL_law 404 = .ok (.aload_n 2, 1) := by decide +kernel
theorem dL_law_405 : decode cL_law 405 = .ok (.invokevirtual 70, 3) := by decide +kernel
theorem dL_law_408 : decode cL_law 408 = .ok (.iload 5, 2) := by decide +kernel
theorem dL_law_410 : decode cL_law 410 = .ok (.if_icmp .eq 5, 3) := by decide +kernel
theorem dL_law_413 : decode cL_law 413 = .ok (.iconst 0, 1) := by decide +kernel
theorem dL_law_414 : decode cL_law 414 = .ok (.ireturn, 1) := by decide +kernel
theorem dL_law_415 : decode cL_law 415 = .ok (.iload 5, 2) := by decide +kernel
theorem dL_law_417 : decode cL_law 417 = .ok (.ifCond .ne 15, 3) := by decide +kernel
theorem dL_law_420 : decode cL_law 420 = .ok (.aload_n 3, 1) := by decide +kernel
theorem dL_law_421 : decode cL_law 421 = .ok (.iconst 0, 1) := by decide +kernel
theorem dL_law_422 : decode cL_law 422 = .ok (.laload, 1) := by decide +kernel
theorem dL_law_423 : decode cL_law 423 = .ok (.iload 6, 2) := by decide +kernel
theorem dL_law_425 : decode cL_law 425 = .ok (.i2l, 1) := by decide +kernel
theorem dL_law_426 : decode cL_law 426 = .ok (.lcmp, 1) := by decide +kernel
theorem dL_law_427 : decode cL_law 427 = .ok (.ifCond .eq 5, 3) := by decide +kernel
theorem dL_law_430 : decode cL_law 430 = .ok (.iconst 0, 1) := by decide +kernel
theorem dL_law_431 : decode cL_law 431 = .ok (.ireturn, 1) := by decide +kernel
theorem dL_law_432 : decode cL_law 432 = .ok (.goto 583, 3) := by decide +kernel
theorem dL_law_435 : decode cL_law 435 = .ok (.aload_n 1, 1) := by decide +kernel
theorem dL_law_436 : decode cL_law 436 = .ok (.aload_n 0, 1) := by decide +kernel
theorem dL_law_437 : decode cL_law 437 = .ok (.iload 4, 2) := by decide +kernel
theorem dL_law_439 : decode cL_law 439 = .ok (.iconst 1, 1) := by decide +kernel
theorem dL_law_440 : decode cL_law 440 = .ok (.iadd, 1) := by decide +kernel
theorem dL_law_441 : decode cL_law 441 = .ok (.iaload, 1) := by decide +kernel
theorem dL_law_442 : decode cL_law 442 = .ok (.aload_n 0, 1) := by decide +kernel
theorem dL_law_443 : decode cL_law 443 = .ok (.iload 4, 2) := by decide +kernel
theorem dL_law_445 : decode cL_law 445 = .ok (.iconst 2, 1) := by decide +kernel
theorem dL_law_446 : decode cL_law 446 = .ok (.iadd, 1) := by decide +kernel
theorem dL_law_447 : decode cL_law 447 = .ok (.iaload, 1) := by decide +kernel
theorem dL_law_448 : decode cL_law 448 = .ok (.aload_n 3, 1) := by decide +kernel
theorem dL_law_449 : decode cL_law 449 = .ok (.invokestatic 87, 3) := by decide +kernel
theorem dL_law_452 : decode cL_law 452 = .ok (.istore 5, 2) := by decide +kernel
theorem dL_law_454 : decode cL_law 454 = .ok (.aload_n 2, 1) := by decide +kernel
theorem dL_law_455 : decode cL_law 455 = .ok (.aload_n 0, 1) := by decide +kernel
theorem dL_law_456 : decode cL_law 456 = .ok (.iload 4, 2) := by decide +kernel
theorem dL_law_458 : decode cL_law 458 = .ok (.iconst 1, 1) := by decide +kernel
theorem dL_law_459 : decode cL_law 459 = .ok (.iadd, 1) := by decide +kernel
theorem dL_law_460 : decode cL_law 460 = .ok (.iaload, 1) := by decide +kernel
theorem dL_law_461 : decode cL_law 461 = .ok (.aload_n 0, 1) := by decide +kernel
theorem dL_law_462 : decode cL_law 462 = .ok (.iload 4, 2) := by decide +kernel
theorem dL_law_464 : decode cL_law 464 = .ok (.iconst 2, 1) := by decide +kernel
theorem dL_law_465 : decode cL_law 465 = .ok (.iadd, 1) := by decide +kernel
theorem dL_law_466 : decode cL_law 466 = .ok (.iaload, 1) := by decide +kernel
theorem dL_law_467 : decode cL_law 467 = .ok (.invokevirtual 89, 3) := by decide +kernel
theorem dL_law_470 : decode cL_law 470 = .ok (.istore 6, 2) := by decide +kernel
theorem dL_law_472 : decode cL_law 472 = .ok (.aload_n 2, 1) := by decide +kernel
theorem dL_law_473 : decode cL_law 473 = .ok (.invokevirtual 70, 3) := by decide +kernel
theorem dL_law_476 : decode cL_law 476 = .ok (.iload 5, 2) := by decide +kernel
theorem dL_law_478 : decode cL_law 478 = .ok (.if_icmp .eq 5, 3) := by decide +kernel
theorem dL_law_481 : decode cL_law 481 = .ok (.iconst 0, 1) := by decide +kernel
theorem dL_law_482 : decode cL_law 482 = .ok (.ireturn, 1) := by decide +kernel
theorem dL_law_483 : decode cL_law 483 = .ok (.iload 5, 2) := by decide +kernel
theorem dL_law_485 : decode cL_law 485 = .ok (.ifCond .ne 15, 3) := by decide +kernel
theorem dL_law_488 : decode cL_law 488 = .ok (.aload_n 3, 1) := by decide +kernel
theorem dL_law_489 : decode cL_law 489 = .ok (.iconst 0, 1) := by decide +kernel
theorem dL_law_490 : decode cL_law 490 = .ok (.laload, 1) := by decide +kernel
theorem dL_law_491 : decode cL_law 491 = .ok (.iload 6, 2) := by decide +kernel
theorem dL_law_493 : decode cL_law 493 = .ok (.i2l, 1) := by decide +kernel
theorem dL_law_494 : decode cL_law 494 = .ok (.lcmp, 1) := by decide +kernel
theorem dL_law_495 : decode cL_law 495 = .ok (.ifCond .eq 5, 3) := by decide +kernel
theorem dL_law_498 : decode cL_law 498 = .ok (.iconst 0, 1) := by decide +kernel
theorem dL_law_499 : decode cL_law 499 = .ok (.ireturn, 1) := by decide +kernel
theorem dL_law_500 : decode cL_law 500 = .ok (.goto 515, 3) := by decide +kernel
theorem dL_law_503 : decode cL_law 503 = .ok (.aload_n 1, 1) := by decide +kernel
theorem dL_law_504 : decode cL_law 504 = .ok (.aload_n 0, 1) := by decide +kernel
theorem dL_law_505 : decode cL_law 505 = .ok (.iload 4, 2) := by decide +kernel
theorem dL_law_507 : decode cL_law 507 = .ok (.iconst 1, 1) := by decide +kernel
theorem dL_law_508 : decode cL_law 508 = .ok (.iadd, 1) := by decide +kernel
theorem dL_law_509 : decode cL_law 509 = .ok (.iaload, 1) := by decide +kernel
theorem dL_law_510 : decode cL_law 510 = .ok (.aload_n 0, 1) := by decide +kernel
theorem dL_law_511 : decode cL_law 511 = .ok (.iload 4, 2) := by decide +kernel
theorem dL_law_513 : decode cL_law 513 = .ok (.iconst 2, 1) := by decide +kernel
theorem dL_law_514 : decode cL_law 514 = .ok (.iadd, 1) := by decide +kernel
theorem dL_law_515 : decode cL_law 515 = .ok (.iaload, 1) := by decide +kernel
theorem dL_law_516 : decode cL_law 516 = .ok (.aload_n 3, 1) := by decide +kernel
theorem dL_law_517 : decode cL_law 517 = .ok (.invokestatic 90, 3) := by decide +kernel
theorem dL_law_520 : decode cL_law 520 = .ok (.istore 5, 2) := by decide +kernel
theorem dL_law_522 : decode cL_law 522 = .ok (.aload_n 2, 1) := by decide +kernel
theorem dL_law_523 : decode cL_law 523 = .ok (.aload_n 0, 1) := by decide +kernel
theorem dL_law_524 : decode cL_law 524 = .ok (.iload 4, 2) := by decide +kernel
theorem dL_law_526 : decode cL_law 526 = .ok (.iconst 1, 1) := by decide +kernel
theorem dL_law_527 : decode cL_law 527 = .ok (.iadd, 1) := by decide +kernel
theorem dL_law_528 : decode cL_law 528 = .ok (.iaload, 1) := by decide +kernel
theorem dL_law_529 : decode cL_law 529 = .ok (.aload_n 0, 1) := by decide +kernel
theorem dL_law_530 : decode cL_law 530 = .ok (.iload 4, 2) := by decide +kernel
theorem dL_law_532 : decode cL_law 532 = .ok (.iconst 2, 1) := by decide +kernel
theorem dL_law_533 : decode cL_law 533 = .ok (.iadd, 1) := by decide +kernel
theorem dL_law_534 : decode cL_law 534 = .ok (.iaload, 1) := by decide +kernel
theorem dL_law_535 : decode cL_law 535 = .ok (.invokevirtual 92, 3) := by decide +kernel
theorem dL_law_538 : decode cL_law 538 = .ok (.istore 6, 2) := by decide +kernel
theorem dL_law_540 : decode cL_law 540 = .ok (.aload_n 2, 1) := by decide +kernel
theorem dL_law_541 : decode cL_law 541 = .ok (.invokevirtual 70, 3) := by decide +kernel
theorem dL_law_544 : decode cL_law 544 = .ok (.iload 5, 2) := by decide +kernel
theorem dL_law_546 : decode cL_law 546 = .ok (.if_icmp .eq 5, 3) := by decide +kernel
theorem dL_law_549 : decode cL_law 549 = .ok (.iconst 0, 1) := by decide +kernel
theorem dL_law_550 : decode cL_law 550 = .ok (.ireturn, 1) := by decide +kernel
theorem dL_law_551 : decode cL_law 551 = .ok (.iload 5, 2) := by decide +kernel
theorem dL_law_553 : decode cL_law 553 = .ok (.ifCond .ne 15, 3) := by decide +kernel
theorem dL_law_556 : decode cL_law 556 = .ok (.aload_n 3, 1) := by decide +kernel
theorem dL_law_557 : decode cL_law 557 = .ok (.iconst 0, 1) := by decide +kernel
theorem dL_law_558 : decode cL_law 558 = .ok (.laload, 1) := by decide +kernel
theorem dL_law_559 : decode cL_law 559 = .ok (.iload 6, 2) := by decide +kernel
theorem dL_law_561 : decode cL_law 561 = .ok (.i2l, 1) := by decide +kernel
theorem dL_law_562 : decode cL_law 562 = .ok (.lcmp, 1) := by decide +kernel
theorem dL_law_563 : decode cL_law 563 = .ok (.ifCond .eq 5, 3) := by decide +kernel
theorem dL_law_566 : decode cL_law 566 = .ok (.iconst 0, 1) := by decide +kernel
theorem dL_law_567 : decode cL_law 567 = .ok (.ireturn, 1) := by decide +kernel
theorem dL_law_568 : decode cL_law 568 = .ok (.goto 447, 3) := by decide +kernel
theorem dL_law_571 : decode cL_law 571 = .ok (.aload_n 1, 1) := by decide +kernel
theorem dL_law_572 : decode cL_law 572 = .ok (.aload_n 0, 1) := by decide +kernel
theorem dL_law_573 : decode cL_law 573 = .ok (.iload 4, 2) := by decide +kernel
theorem dL_law_575 : decode cL_law 575 = .ok (.iconst 1, 1) := by decide +kernel
theorem dL_law_576 : decode cL_law 576 = .ok (.iadd, 1) := by decide +kernel
theorem dL_law_577 : decode cL_law 577 = .ok (.iaload, 1) := by decide +kernel
theorem dL_law_578 : decode cL_law 578 = .ok (.aload_n 3, 1) := by decide +kernel
theorem dL_law_579 : decode cL_law 579 = .ok (.invokestatic 93, 3) := by decide +kernel
theorem dL_law_582 : decode cL_law 582 = .ok (.istore 5, 2) := by decide +kernel
theorem dL_law_584 : decode cL_law 584 = .ok (.aload_n 2, 1) := by decide +kernel
theorem dL_law_585 : decode cL_law 585 = .ok (.aload_n 0, 1) := by decide +kernel
theorem dL_law_586 : decode cL_law 586 = .ok (.iload 4, 2) := by decide +kernel
theorem dL_law_588 : decode cL_law 588 = .ok (.iconst 1, 1) := by decide +kernel
theorem dL_law_589 : decode cL_law 589 = .ok (.iadd, 1) := by decide +kernel
theorem dL_law_590 : decode cL_law 590 = .ok (.iaload, 1) := by decide +kernel
theorem dL_law_591 : decode cL_law 591 = .ok (.invokevirtual 95, 3) := by decide +kernel
theorem dL_law_594 : decode cL_law 594 = .ok (.istore 6, 2) := by decide +kernel
theorem dL_law_596 : decode cL_law 596 = .ok (.aload_n 2, 1) := by decide +kernel
theorem dL_law_597 : decode cL_law 597 = .ok (.invokevirtual 70, 3) := by decide +kernel
theorem dL_law_600 : decode cL_law 600 = .ok (.iload 5, 2) := by decide +kernel
theorem dL_law_602 : decode cL_law 602 = .ok (.if_icmp .eq 5, 3) := by decide +kernel
theorem dL_law_605 : decode cL_law 605 = .ok (.iconst 0, 1) := by decide +kernel
theorem dL_law_606 : decode cL_law 606 = .ok (.ireturn, 1) := by decide +kernel
theorem dL_law_607 : decode cL_law 607 = .ok (.iload 5, 2) := by decide +kernel
theorem dL_law_609 : decode cL_law 609 = .ok (.ifCond .ne 15, 3) := by decide +kernel
theorem dL_law_612 : decode cL_law 612 = .ok (.aload_n 3, 1) := by decide +kernel
theorem dL_law_613 : decode cL_law 613 = .ok (.iconst 0, 1) := by decide +kernel
theorem dL_law_614 : decode cL_law 614 = .ok (.laload, 1) := by decide +kernel
theorem dL_law_615 : decode cL_law 615 = .ok (.iload 6, 2) := by decide +kernel
theorem dL_law_617 : decode cL_law 617 = .ok (.i2l, 1) := by decide +kernel
theorem dL_law_618 : decode cL_law 618 = .ok (.lcmp, 1) := by decide +kernel
theorem dL_law_619 : decode cL_law 619 = .ok (.ifCond .eq 5, 3) := by decide +kernel
theorem dL_law_622 : decode cL_law 622 = .ok (.iconst 0, 1) := by decide +kernel
theorem dL_law_623 : decode cL_law 623 = .ok (.ireturn, 1) := by decide +kernel
theorem dL_law_624 : decode cL_law 624 = .ok (.goto 391, 3) := by decide +kernel
theorem dL_law_627 : decode cL_law 627 = .ok (.aload_n 1, 1) := by decide +kernel
theorem dL_law_628 : decode cL_law 628 = .ok (.invokevirtual 96, 3) := by decide +kernel
theorem dL_law_631 : decode cL_law 631 = .ok (.aload_n 2, 1) := by decide +kernel
theorem dL_law_632 : decode cL_law 632 = .ok (.invokevirtual 99, 3) := by decide +kernel
theorem dL_law_635 : decode cL_law 635 = .ok (.if_icmp .eq 380, 3) := by decide +kernel
theorem dL_law_638 : decode cL_law 638 = .ok (.iconst 0, 1) := by decide +kernel
theorem dL_law_639 : decode cL_law 639 = .ok (.ireturn, 1) := by decide +kernel
theorem dL_law_640 : decode cL_law 640 = .ok (.aload_n 1, 1) := by decide +kernel
theorem dL_law_641 : decode cL_law 641 = .ok (.aload_n 0, 1) := by decide +kernel
theorem dL_law_642 : decode cL_law 642 = .ok (.iload 4, 2) := by decide +kernel
theorem dL_law_644 : decode cL_law 644 = .ok (.iconst 1, 1) := by decide +kernel
theorem dL_law_645 : decode cL_law 645 = .ok (.iadd, 1) := by decide +kernel
theorem dL_law_646 : decode cL_law 646 = .ok (.iaload, 1) := by decide +kernel
theorem dL_law_647 : decode cL_law 647 = .ok (.aload_n 3, 1) := by decide +kernel
theorem dL_law_648 : decode cL_law 648 = .ok (.invokestatic 100, 3) := by decide +kernel
theorem dL_law_651 : decode cL_law 651 = .ok (.istore 5, 2) := by decide +kernel
theorem dL_law_653 : decode cL_law 653 = .ok (.aload_n 2, 1) := by decide +kernel
theorem dL_law_654 : decode cL_law 654 = .ok (.aload_n 0, 1) := by decide +kernel
theorem dL_law_655 : decode cL_law 655 = .ok (.iload 4, 2) := by decide +kernel
theorem dL_law_657 : decode cL_law 657 = .ok (.iconst 1, 1) := by decide +kernel
theorem dL_law_658 : decode cL_law 658 = .ok (.iadd, 1) := by decide +kernel
theorem dL_law_659 : decode cL_law 659 = .ok (.iaload, 1) := by decide +kernel
theorem dL_law_660 : decode cL_law 660 = .ok (.invokevirtual 102, 3) := by decide +kernel
theorem dL_law_663 : decode cL_law 663 = .ok (.istore 6, 2) := by decide +kernel
theorem dL_law_665 : decode cL_law 665 = .ok (.aload_n 2, 1) := by decide +kernel
theorem dL_law_666 : decode cL_law 666 = .ok (.invokevirtual 70, 3) := by decide +kernel
theorem dL_law_669 : decode cL_law 669 = .ok (.iload 5, 2) := by decide +kernel
theorem dL_law_671 : decode cL_law 671 = .ok (.if_icmp .eq 5, 3) := by decide +kernel
theorem dL_law_674 : decode cL_law 674 = .ok (.iconst 0, 1) := by decide +kernel
theorem dL_law_675 : decode cL_law 675 = .ok (.ireturn, 1) := by decide +kernel
theorem dL_law_676 : decode cL_law 676 = .ok (.iload 5, 2) := by decide +kernel
theorem dL_law_678 : decode cL_law 678 = .ok (.ifCond .ne 15, 3) := by decide +kernel
theorem dL_law_681 : decode cL_law 681 = .ok (.aload_n 3, 1) := by decide +kernel
theorem dL_law_682 : decode cL_law 682 = .ok (.iconst 0, 1) := by decide +kernel
theorem dL_law_683 : decode cL_law 683 = .ok (.laload, 1) := by decide +kernel
theorem dL_law_684 : decode cL_law 684 = .ok (.iload 6, 2) := by decide +kernel
theorem dL_law_686 : decode cL_law 686 = .ok (.i2l, 1) := by decide +kernel
theorem dL_law_687 : decode cL_law 687 = .ok (.lcmp, 1) := by decide +kernel
theorem dL_law_688 : decode cL_law 688 = .ok (.ifCond .eq 5, 3) := by decide +kernel
theorem dL_law_691 : decode cL_law 691 = .ok (.iconst 0, 1) := by decide +kernel
theorem dL_law_692 : decode cL_law 692 = .ok (.ireturn, 1) := by decide +kernel
theorem dL_law_693 : decode cL_law 693 = .ok (.goto 322, 3) := by decide +kernel
theorem dL_law_696 : decode cL_law 696 = .ok (.aload_n 1, 1) := by decide +kernel
theorem dL_law_697 : decode cL_law 697 = .ok (.invokevirtual 103, 3) := by decide +kernel
theorem dL_law_700 : decode cL_law 700 = .ok (.aload_n 2, 1) := by decide +kernel
theorem dL_law_701 : decode cL_law 701 = .ok (.invokevirtual 106, 3) := by decide +kernel
theorem dL_law_704 : decode cL_law 704 = .ok (.if_icmp .eq 311, 3) := by decide +kernel
theorem dL_law_707 : decode cL_law 707 = .ok (.iconst 0, 1) := by decide +kernel
theorem dL_law_708 : decode cL_law 708 = .ok (.ireturn, 1) := by decide +kernel
theorem dL_law_709 : decode cL_law 709 = .ok (.aload_n 1, 1) := by decide +kernel
theorem dL_law_710 : decode cL_law 710 = .ok (.invokevirtual 107, 3) := by decide +kernel
theorem dL_law_713 : decode cL_law 713 = .ok (.aload_n 2, 1) := by decide +kernel
theorem dL_law_714 : decode cL_law 714 = .ok (.invokevirtual 110, 3) := by decide +kernel
theorem dL_law_717 : decode cL_law 717 = .ok (.if_icmp .eq 298, 3) := by decide +kernel
theorem dL_law_720 : decode cL_law 720 = .ok (.iconst 0, 1) := by decide +kernel
theorem dL_law_721 : decode cL_law 721 = .ok (.ireturn, 1) := by decide +kernel
theorem dL_law_722 : decode cL_law 722 = .ok (.aload_n 1, 1) := by decide +kernel
theorem dL_law_723 : decode cL_law 723 = .ok (.aload_n 0, 1) := by decide +kernel
theorem dL_law_724 : decode cL_law 724 = .ok (.iload 4, 2) := by decide +kernel
theorem dL_law_726 : decode cL_law 726 = .ok (.iconst 1, 1) := by decide +kernel
theorem dL_law_727 : decode cL_law 727 = .ok (.iadd, 1) := by decide +kernel
theorem dL_law_728 : decode cL_law 728 = .ok (.iaload, 1) := by decide +kernel
theorem dL_law_729 : decode cL_law 729 = .ok (.aload_n 3, 1) := by decide +kernel
theorem dL_law_730 : decode cL_law 730 = .ok (.invokestatic 111, 3) := by decide +kernel
theorem dL_law_733 : decode cL_law 733 = .ok (.istore 5, 2) := by decide +kernel
theorem dL_law_735 : decode cL_law 735 = .ok (.aload_n 2, 1) := by decide +kernel
theorem dL_law_736 : decode cL_law 736 = .ok (.aload_n 0, 1) := by decide +kernel
theorem dL_law_737 : decode cL_law 737 = .ok (.iload 4, 2) := by decide +kernel
theorem dL_law_739 : decode cL_law 739 = .ok (.iconst 1, 1) := by decide +kernel
theorem dL_law_740 : decode cL_law 740 = .ok (.iadd, 1) := by decide +kernel
theorem dL_law_741 : decode cL_law 741 = .ok (.iaload, 1) := by decide +kernel
theorem dL_law_742 : decode cL_law 742 = .ok (.invokevirtual 113, 3) := by decide +kernel
theorem dL_law_745 : decode cL_law 745 = .ok (.istore 6, 2) := by decide +kernel
theorem dL_law_747 : decode cL_law 747 = .ok (.aload_n 2, 1) := by decide +kernel
theorem dL_law_748 : decode cL_law 748 = .ok (.invokevirtual 70, 3) := by decide +kernel
theorem dL_law_751 : decode cL_law 751 = .ok (.iload 5, 2) := by decide +kernel
theorem dL_law_753 : decode cL_law 753 = .ok (.if_icmp .eq 5, 3) := by decide +kernel
theorem dL_law_756 : decode cL_law 756 = .ok (.iconst 0, 1) := by decide +kernel
theorem dL_law_757 : decode cL_law 757 = .ok (.ireturn, 1) := by decide +kernel
theorem dL_law_758 : decode cL_law 758 = .ok (.iload 5, 2) := by decide +kernel
theorem dL_law_760 : decode cL_law 760 = .ok (.ifCond .ne 15, 3) := by decide +kernel
theorem dL_law_763 : decode cL_law 763 = .ok (.aload_n 3, 1) := by decide +kernel
theorem dL_law_764 : decode cL_law 764 = .ok (.iconst 0, 1) := by decide +kernel
theorem dL_law_765 : decode cL_law 765 = .ok (.laload, 1) := by decide +kernel
theorem dL_law_766 : decode cL_law 766 = .ok (.iload 6, 2) := by decide +kernel
theorem dL_law_768 : decode cL_law 768 = .ok (.i2l, 1) := by decide +kernel
theorem dL_law_769 : decode cL_law 769 = .ok (.lcmp, 1) := by decide +kernel
theorem dL_law_770 : decode cL_law 770 = .ok (.ifCond .eq 5, 3) := by decide +kernel
theorem dL_law_773 : decode cL_law 773 = .ok (.iconst 0, 1) := by decide +kernel
theorem dL_law_774 : decode cL_law 774 = .ok (.ireturn, 1) := by decide +kernel
theorem dL_law_775 : decode cL_law 775 = .ok (.goto 240, 3) := by decide +kernel
theorem dL_law_778 : decode cL_law 778 = .ok (.aload_n 1, 1) := by decide +kernel
theorem dL_law_779 : decode cL_law 779 = .ok (.aload_n 0, 1) := by decide +kernel
theorem dL_law_780 : decode cL_law 780 = .ok (.iload 4, 2) := by decide +kernel
theorem dL_law_782 : decode cL_law 782 = .ok (.iconst 1, 1) := by decide +kernel
theorem dL_law_783 : decode cL_law 783 = .ok (.iadd, 1) := by decide +kernel
theorem dL_law_784 : decode cL_law 784 = .ok (.iaload, 1) := by decide +kernel
theorem dL_law_785 : decode cL_law 785 = .ok (.aload_n 3, 1) := by decide +kernel
theorem dL_law_786 : decode cL_law 786 = .ok (.invokestatic 114, 3) := by decide +kernel
theorem dL_law_789 : decode cL_law 789 = .ok (.istore 5, 2) := by decide +kernel
theorem dL_law_791 : decode cL_law 791 = .ok (.aload_n 2, 1) := by decide +kernel
theorem dL_law_792 : decode cL_law 792 = .ok (.aload_n 0, 1) := by decide +kernel
theorem dL_law_793 : decode cL_law 793 = .ok (.iload 4, 2) := by decide +kernel
theorem dL_law_795 : decode cL_law 795 = .ok (.iconst 1, 1) := by decide +kernel
theorem dL_law_796 : decode cL_law 796 = .ok (.iadd, 1) := by decide +kernel
theorem dL_law_797 : decode cL_law 797 = .ok (.iaload, 1) := by decide +kernel
theorem dL_law_798 : decode cL_law 798 = .ok (.invokevirtual 116, 3) := by decide +kernel
theorem dL_law_801 : decode cL_law 801 = .ok (.istore 6, 2) := by decide +kernel
theorem dL_law_803 : decode cL_law 803 = .ok (.aload_n 2, 1) := by decide +kernel
theorem dL_law_804 : decode cL_law 804 = .ok (.invokevirtual 70, 3) := by decide +kernel
theorem dL_law_807 : decode cL_law 807 = .ok (.iload 5, 2) := by decide +kernel
theorem dL_law_809 : decode cL_law 809 = .ok (.if_icmp .eq 5, 3) := by decide +kernel
theorem dL_law_812 : decode cL_law 812 = .ok (.iconst 0, 1) := by decide +kernel
theorem dL_law_813 : decode cL_law 813 = .ok (.ireturn, 1) := by decide +kernel
theorem dL_law_814 : decode cL_law 814 = .ok (.iload 5, 2) := by decide +kernel
theorem dL_law_816 : decode cL_law 816 = .ok (.ifCond .ne 15, 3) := by decide +kernel
theorem dL_law_819 : decode cL_law 819 = .ok (.aload_n 3, 1) := by decide +kernel
theorem dL_law_820 : decode cL_law 820 = .ok (.iconst 0, 1) := by decide +kernel
theorem dL_law_821 : decode cL_law 821 = .ok (.laload, 1) := by decide +kernel
theorem dL_law_822 : decode cL_law 822 = .ok (.iload 6, 2) := by decide +kernel
theorem dL_law_824 : decode cL_law 824 = .ok (.i2l, 1) := by decide +kernel
theorem dL_law_825 : decode cL_law 825 = .ok (.lcmp, 1) := by decide +kernel
theorem dL_law_826 : decode cL_law 826 = .ok (.ifCond .eq 5, 3) := by decide +kernel
theorem dL_law_829 : decode cL_law 829 = .ok (.iconst 0, 1) := by decide +kernel
theorem dL_law_830 : decode cL_law 830 = .ok (.ireturn, 1) := by decide +kernel
theorem dL_law_831 : decode cL_law 831 = .ok (.goto 184, 3) := by decide +kernel
theorem dL_law_834 : decode cL_law 834 = .ok (.aload_n 1, 1) := by decide +kernel
theorem dL_law_835 : decode cL_law 835 = .ok (.aload_n 0, 1) := by decide +kernel
theorem dL_law_836 : decode cL_law 836 = .ok (.iload 4, 2) := by decide +kernel
theorem dL_law_838 : decode cL_law 838 = .ok (.iconst 1, 1) := by decide +kernel
theorem dL_law_839 : decode cL_law 839 = .ok (.iadd, 1) := by decide +kernel
theorem dL_law_840 : decode cL_law 840 = .ok (.iaload, 1) := by decide +kernel
theorem dL_law_841 : decode cL_law 841 = .ok (.aload_n 3, 1) := by decide +kernel
theorem dL_law_842 : decode cL_law 842 = .ok (.invokestatic 117, 3) := by decide +kernel
theorem dL_law_845 : decode cL_law 845 = .ok (.istore 5, 2) := by decide +kernel
theorem dL_law_847 : decode cL_law 847 = .ok (.aload_n 2, 1) := by decide +kernel
theorem dL_law_848 : decode cL_law 848 = .ok (.aload_n 0, 1) := by decide +kernel
theorem dL_law_849 : decode cL_law 849 = .ok (.iload 4, 2) := by decide +kernel
theorem dL_law_851 : decode cL_law 851 = .ok (.iconst 1, 1) := by decide +kernel
theorem dL_law_852 : decode cL_law 852 = .ok (.iadd, 1) := by decide +kernel
theorem dL_law_853 : decode cL_law 853 = .ok (.iaload, 1) := by decide +kernel
theorem dL_law_854 : decode cL_law 854 = .ok (.invokevirtual 119, 3) := by decide +kernel
theorem dL_law_857 : decode cL_law 857 = .ok (.istore 6, 2) := by decide +kernel
theorem dL_law_859 : decode cL_law 859 = .ok (.aload_n 2, 1) := by decide +kernel
theorem dL_law_860 : decode cL_law 860 = .ok (.invokevirtual 70, 3) := by decide +kernel
theorem dL_law_863 : decode cL_law 863 = .ok (.iload 5, 2) := by decide +kernel
theorem dL_law_865 : decode cL_law 865 = .ok (.if_icmp .eq 5, 3) := by decide +kernel
theorem dL_law_868 : decode cL_law 868 = .ok (.iconst 0, 1) := by decide +kernel
theorem dL_law_869 : decode cL_law 869 = .ok (.ireturn, 1) := by decide +kernel
theorem dL_law_870 : decode cL_law 870 = .ok (.iload 5, 2) := by decide +kernel
theorem dL_law_872 : decode cL_law 872 = .ok (.ifCond .ne 15, 3) := by decide +kernel
theorem dL_law_875 : decode cL_law 875 = .ok (.aload_n 3, 1) := by decide +kernel
theorem dL_law_876 : decode cL_law 876 = .ok (.iconst 0, 1) := by decide +kernel
theorem dL_law_877 : decode cL_law 877 = .ok (.laload, 1) := by decide +kernel
theorem dL_law_878 : decode cL_law 878 = .ok (.iload 6, 2) := by decide +kernel
theorem dL_law_880 : decode cL_law 880 = .ok (.i2l, 1) := by decide +kernel
theorem dL_law_881 : decode cL_law 881 = .ok (.lcmp, 1) := by decide +kernel
theorem dL_law_882 : decode cL_law 882 = .ok (.ifCond .eq 5, 3) := by decide +kernel
theorem dL_law_885 : decode cL_law 885 = .ok (.iconst 0, 1) := by decide +kernel
theorem dL_law_886 : decode cL_law 886 = .ok (.ireturn, 1) := by decide +kernel
theorem dL_law_887 : decode cL_law 887 = .ok (.goto 128, 3) := by decide +kernel
theorem dL_law_890 : decode cL_law 890 = .ok (.aload_n 1, 1) := by decide +kernel
theorem dL_law_891 : decode cL_law 891 = .ok (.invokevirtual 120, 3) := by decide +kernel
theorem dL_law_894 : decode cL_law 894 = .ok (.aload_n 2, 1) := by decide +kernel
theorem dL_law_895 : decode cL_law 895 = .ok (.invokevirtual 123, 3) := by decide +kernel
theorem dL_law_898 : decode cL_law 898 = .ok (.if_icmp .eq 117, 3) := by decide +kernel
theorem dL_law_901 : decode cL_law 901 = .ok (.iconst 0, 1) := by decide +kernel
theorem dL_law_902 : decode cL_law 902 = .ok (.ireturn, 1) := by decide +kernel
theorem dL_law_903 : decode cL_law 903 = .ok (.aload_n 1, 1) := by decide +kernel
theorem dL_law_904 : decode cL_law 904 = .ok (.aload_n 0, 1) := by decide +kernel
theorem dL_law_905 : decode cL_law 905 = .ok (.iload 4, 2) := by decide +kernel
theorem dL_law_907 : decode cL_law 907 = .ok (.iconst 1, 1) := by decide +kernel
theorem dL_law_908 : decode cL_law 908 = .ok (.iadd, 1) := by decide +kernel
theorem dL_law_909 : decode cL_law 909 = .ok (.iaload, 1) := by decide +kernel
theorem dL_law_910 : decode cL_law 910 = .ok (.aload_n 3, 1) := by decide +kernel
theorem dL_law_911 : decode cL_law 911 = .ok (.invokestatic 124, 3) := by decide +kernel
theorem dL_law_914 : decode cL_law 914 = .ok (.istore 5, 2) := by decide +kernel
theorem dL_law_916 : decode cL_law 916 = .ok (.aload_n 2, 1) := by decide +kernel
theorem dL_law_917 : decode cL_law 917 = .ok (.aload_n 0, 1) := by decide +kernel
theorem dL_law_918 : decode cL_law 918 = .ok (.iload 4, 2) := by decide +kernel
theorem dL_law_920 : decode cL_law 920 = .ok (.iconst 1, 1) := by decide +kernel
theorem dL_law_921 : decode cL_law 921 = .ok (.iadd, 1) := by decide +kernel
theorem dL_law_922 : decode cL_law 922 = .ok (.iaload, 1) := by decide +kernel
theorem dL_law_923 : decode cL_law 923 = .ok (.invokevirtual 126, 3) := by decide +kernel
theorem dL_law_926 : decode cL_law 926 = .ok (.istore 6, 2) := by decide +kernel
theorem dL_law_928 : decode cL_law 928 = .ok (.aload_n 2, 1) := by decide +kernel
theorem dL_law_929 : decode cL_law 929 = .ok (.invokevirtual 70, 3) := by decide +kernel
theorem dL_law_932 : decode cL_law 932 = .ok (.iload 5, 2) := by decide +kernel
theorem dL_law_934 : decode cL_law 934 = .ok (.if_icmp .eq 5, 3) := by decide +kernel
theorem dL_law_937 : decode cL_law 937 = .ok (.iconst 0, 1) := by decide +kernel
theorem dL_law_938 : decode cL_law 938 = .ok (.ireturn, 1) := by decide +kernel
theorem dL_law_939 : decode cL_law 939 = .ok (.iload 5, 2) := by decide +kernel
theorem dL_law_941 : decode cL_law 941 = .ok (.ifCond .ne 15, 3) := by decide +kernel
theorem dL_law_944 : decode cL_law 944 = .ok (.aload_n 3, 1) := by decide +kernel
theorem dL_law_945 : decode cL_law 945 = .ok (.iconst 0, 1) := by decide +kernel
theorem dL_law_946 : decode cL_law 946 = .ok (.laload, 1) := by decide +kernel
theorem dL_law_947 : decode cL_law 947 = .ok (.iload 6, 2) := by decide +kernel
theorem dL_law_949 : decode cL_law 949 = .ok (.i2l, 1) := by decide +kernel
theorem dL_law_950 : decode cL_law 950 = .ok (.lcmp, 1) := by decide +kernel
theorem dL_law_951 : decode cL_law 951 = .ok (.ifCond .eq 5, 3) := by decide +kernel
theorem dL_law_954 : decode cL_law 954 = .ok (.iconst 0, 1) := by decide +kernel
theorem dL_law_955 : decode cL_law 955 = .ok (.ireturn, 1) := by decide +kernel
theorem dL_law_956 : decode cL_law 956 = .ok (.goto 59, 3) := by decide +kernel
theorem dL_law_959 : decode cL_law 959 = .ok (.aload_n 1, 1) := by decide +kernel
theorem dL_law_960 : decode cL_law 960 = .ok (.aload_n 0, 1) := by decide +kernel
theorem dL_law_961 : decode cL_law 961 = .ok (.iload 4, 2) := by decide +kernel
theorem dL_law_963 : decode cL_law 963 = .ok (.iconst 1, 1) := by decide +kernel
theorem dL_law_964 : decode cL_law 964 = .ok (.iadd, 1) := by decide +kernel
theorem dL_law_965 : decode cL_law 965 = .ok (.iaload, 1) := by decide +kernel
theorem dL_law_966 : decode cL_law 966 = .ok (.aload_n 3, 1) := by decide +kernel
theorem dL_law_967 : decode cL_law 967 = .ok (.invokestatic 127, 3) := by decide +kernel
theorem dL_law_970 : decode cL_law 970 = .ok (.istore 5, 2) := by decide +kernel
theorem dL_law_972 : decode cL_law 972 = .ok (.aload_n 2, 1) := by decide +kernel
theorem dL_law_973 : decode cL_law 973 = .ok (.aload_n 0, 1) := by decide +kernel
theorem dL_law_974 : decode cL_law 974 = .ok (.iload 4, 2) := by decide +kernel
theorem dL_law_976 : decode cL_law 976 = .ok (.iconst 1, 1) := by decide +kernel
theorem dL_law_977 : decode cL_law 977 = .ok (.iadd, 1) := by decide +kernel
theorem dL_law_978 : decode cL_law 978 = .ok (.iaload, 1) := by decide +kernel
theorem dL_law_979 : decode cL_law 979 = .ok (.invokevirtual 129, 3) := by decide +kernel
theorem dL_law_982 : decode cL_law 982 = .ok (.istore 6, 2) := by decide +kernel
theorem dL_law_984 : decode cL_law 984 = .ok (.aload_n 2, 1) := by decide +kernel
theorem dL_law_985 : decode cL_law 985 = .ok (.invokevirtual 70, 3) := by decide +kernel
theorem dL_law_988 : decode cL_law 988 = .ok (.iload 5, 2) := by decide +kernel
theorem dL_law_990 : decode cL_law 990 = .ok (.if_icmp .eq 5, 3) := by decide +kernel
theorem dL_law_993 : decode cL_law 993 = .ok (.iconst 0, 1) := by decide +kernel
theorem dL_law_994 : decode cL_law 994 = .ok (.ireturn, 1) := by decide +kernel
theorem dL_law_995 : decode cL_law 995 = .ok (.iload 5, 2) := by decide +kernel
theorem dL_law_997 : decode cL_law 997 = .ok (.ifCond .ne 15, 3) := by decide +kernel
theorem dL_law_1000 : decode cL_law 1000 = .ok (.aload_n 3, 1) := by decide +kernel
theorem dL_law_1001 : decode cL_law 1001 = .ok (.iconst 0, 1) := by decide +kernel
theorem dL_law_1002 : decode cL_law 1002 = .ok (.laload, 1) := by decide +kernel
theorem dL_law_1003 : decode cL_law 1003 = .ok (.iload 6, 2) := by decide +kernel
theorem dL_law_1005 : decode cL_law 1005 = .ok (.i2l, 1) := by decide +kernel
theorem dL_law_1006 : decode cL_law 1006 = .ok (.lcmp, 1) := by decide +kernel
theorem dL_law_1007 : decode cL_law 1007 = .ok (.ifCond .eq 5, 3) := by decide +kernel
theorem dL_law_1010 : decode cL_law 1010 = .ok (.iconst 0, 1) := by decide +kernel
theorem dL_law_1011 : decode cL_law 1011 = .ok (.ireturn, 1) := by decide +kernel
theorem dL_law_1012 : decode cL_law 1012 = .ok (.goto 3, 3) := by decide +kernel
theorem dL_law_1015 : decode cL_law 1015 = .ok (.iinc 4 3, 3) := by decide +kernel
theorem dL_law_1018 : decode cL_law 1018 = .ok (.goto (-995), 3) := by decide +kernel
theorem dL_law_1021 : decode cL_law 1021 = .ok (.iconst 1, 1) := by decide +kernel
theorem dL_law_1022 : decode cL_law 1022 = .ok (.ireturn, 1) := by decide +kernel
end
section
/-! the words that every method has: the good ones of the tables, each by its place -/
def gw : List Cond := lw_tbl.filter goodWord
theorem gw_mem {w : Cond} (i : Nat) (h : lw_tbl[i]? = some w) (hg : goodWord w = true) : w ∈ gw := List.mem_filter.mpr ⟨List.mem_of_getElem? h, hg⟩
theorem gw_good : GoodIn gw gw := fun w h => ⟨h, good_of_word (List.mem_filter.mp h).2⟩
set_option maxRecDepth 20000 in
theorem kw_0 : (Cond.selects "java/lang/Throwable" ⟨"java/lang/Throwable", "fillInStackTrace", "(I)Ljava/lang/Throwable;"⟩ ⟨"java/lang/Throwable", "fillInStackTrace", "(I)Ljava/lang/Throwable;"⟩) ∈ gw := gw_mem 0 (by decide +kernel) rfl
set_option maxRecDepth 20000 in
theorem kw_1 : (Cond.selects RX2 yX2_giveOrder yX2_giveOrder) ∈ gw := gw_mem 1 (by decide +kernel) rfl
set_option maxRecDepth 20000 in
theorem kw_2 : (Cond.selects RX2 yX2_labelOf yX2_labelOf) ∈ gw := gw_mem 2 (by decide +kernel) rfl
set_option maxRecDepth 20000 in
theorem kw_3 : (Cond.selects RX2 yX2_passOneMinute yX2_passOneMinute) ∈ gw := gw_mem 3 (by decide +kernel) rfl
set_option maxRecDepth 20000 in
theorem kw_4 : (Cond.selects RX0 yX0_redraw yX0_redraw) ∈ gw := gw_mem 4 (by decide +kernel) rfl
set_option maxRecDepth 20000 in
theorem kw_5 : (Cond.selects RX0 yX0_answer yX0_answer) ∈ gw := gw_mem 5 (by decide +kernel) rfl
set_option maxRecDepth 20000 in
theorem kw_6 : (Cond.selects RX2 yX2_endMinute yX2_endMinute) ∈ gw := gw_mem 6 (by decide +kernel) rfl
set_option maxRecDepth 20000 in
theorem kw_7 : (Cond.selects RX2 yX2_leastShownNow yX2_leastShownNow) ∈ gw := gw_mem 7 (by decide +kernel) rfl
set_option maxRecDepth 20000 in
theorem kw_8 : (Cond.selects RX3 yX3_holds yX3_holds) ∈ gw := gw_mem 8 (by decide +kernel) rfl
set_option maxRecDepth 20000 in
theorem kw_9 : (Cond.selects RX3 yX3_gets yX3_gets) ∈ gw := gw_mem 9 (by decide +kernel) rfl
set_option maxRecDepth 20000 in
theorem kw_10 : (Cond.selects RX3 yX3_isLabel yX3_isLabel) ∈ gw := gw_mem 10 (by decide +kernel) rfl
set_option maxRecDepth 20000 in
theorem kw_11 : (Cond.selects RX3 yX3_goes yX3_goes) ∈ gw := gw_mem 11 (by decide +kernel) rfl
set_option maxRecDepth 20000 in
theorem kw_12 : (Cond.selects RX3 yX3_longest yX3_longest) ∈ gw := gw_mem 12 (by decide +kernel) rfl
set_option maxRecDepth 20000 in
theorem kw_13 : (Cond.selects RX3 yX3_sends yX3_sends) ∈ gw := gw_mem 13 (by decide +kernel) rfl
set_option maxRecDepth 20000 in
theorem kw_14 : (Cond.selects RX3 yX3_redraws yX3_redraws) ∈ gw := gw_mem 14 (by decide +kernel) rfl
set_option maxRecDepth 20000 in
theorem kw_15 : (Cond.selects RX3 yX3_leastNow yX3_leastNow) ∈ gw := gw_mem 15 (by decide +kernel) rfl
set_option maxRecDepth 20000 in
theorem kw_16 : (Cond.initialized RL) ∈ gw := gw_mem 16 (by decide +kernel) rfl
set_option maxRecDepth 20000 in
theorem kw_17 : (Cond.initialized RX2) ∈ gw := gw_mem 17 (by decide +kernel) rfl
set_option maxRecDepth 20000 in
theorem kw_18 : (Cond.initialized RX1) ∈ gw := gw_mem 18 (by decide +kernel) rfl
set_option maxRecDepth 20000 in
theorem kw_19 : (Cond.initialized "java/util/Arrays") ∈ gw := gw_mem 19 (by decide +kernel) rfl
set_option maxRecDepth 20000 in
theorem kw_20 : (Cond.initialized RX0) ∈ gw := gw_mem 20 (by decide +kernel) rfl
set_option maxRecDepth 20000 in
theorem kw_21 : (Cond.initialized RX3) ∈ gw := gw_mem 21 (by decide +kernel) rfl
set_option maxRecDepth 20000 in
theorem kw_22 : (Cond.initialized "java/lang/Throwable") ∈ gw := gw_mem 22 (by decide +kernel) rfl
set_option maxRecDepth 20000 in
theorem kw_23 : (Cond.initialized "java/lang/Exception") ∈ gw := gw_mem 23 (by decide +kernel) rfl
set_option maxRecDepth 20000 in
theorem kw_24 : (Cond.initialized "java/lang/RuntimeException") ∈ gw := gw_mem 24 (by decide +kernel) rfl
set_option maxRecDepth 20000 in
theorem kw_25 : (Cond.initialized "java/lang/IndexOutOfBoundsException") ∈ gw := gw_mem 25 (by decide +kernel) rfl
set_option maxRecDepth 20000 in
theorem kw_26 : (Cond.initialized "java/lang/IllegalArgumentException") ∈ gw := gw_mem 26 (by decide +kernel) rfl
set_option maxRecDepth 20000 in
theorem kw_27 : (Cond.initialized "java/lang/IllegalStateException") ∈ gw := gw_mem 27 (by decide +kernel) rfl
set_option maxRecDepth 20000 in
theorem kw_28 : (Cond.initialized "java/lang/Math") ∈ gw := gw_mem 28 (by decide +kernel) rfl
set_option maxRecDepth 20000 in
theorem kw_29 : (Cond.classLink RL 8 RX2) ∈ gw := gw_mem 29 (by decide +kernel) rfl
set_option maxRecDepth 20000 in
theorem kw_30 : (Cond.instantiable RX2 6) ∈ gw := gw_mem 30 (by decide +kernel) rfl
set_option maxRecDepth 20000 in
theorem kw_31 : (Cond.methodLink RL 60 yX2_init) ∈ gw := gw_mem 31 (by decide +kernel) rfl
set_option maxRecDepth 20000 in
theorem kw_32 : (Cond.instanceMethod yX2_init) ∈ gw := gw_mem 32 (by decide +kernel) rfl
set_option maxRecDepth 20000 in
theorem kw_33 : (Cond.code yX2_init cX2_init 2 none) ∈ gw := gw_mem 33 (by decide +kernel) rfl
set_option maxRecDepth 20000 in
theorem kw_34 : (Cond.methodLink RX2 1 objectInit) ∈ gw := gw_mem 34 (by decide +kernel) rfl
set_option maxRecDepth 20000 in
theorem kw_35 : (Cond.instanceMethod objectInit) ∈ gw := gw_mem 35 (by decide +kernel) rfl
set_option maxRecDepth 20000 in
theorem kw_36 : (Cond.code objectInit ⟨#[0xb1]⟩ 1 none) ∈ gw := gw_mem 36 (by decide +kernel) rfl
set_option maxRecDepth 20000 in
theorem kw_37 : (Cond.classLink RX2 13 RX0) ∈ gw := gw_mem 37 (by decide +kernel) rfl
set_option maxRecDepth 20000 in
theorem kw_39 : (Cond.classLink RX2 19 RX1) ∈ gw := gw_mem 39 (by decide +kernel) rfl
set_option maxRecDepth 20000 in
theorem kw_40 : (Cond.instantiable RX1 2) ∈ gw := gw_mem 40 (by decide +kernel) rfl
set_option maxRecDepth 20000 in
theorem kw_41 : (Cond.methodLink RX2 21 yX1_init) ∈ gw := gw_mem 41 (by decide +kernel) rfl
set_option maxRecDepth 20000 in
theorem kw_42 : (Cond.instanceMethod yX1_init) ∈ gw := gw_mem 42 (by decide +kernel) rfl
set_option maxRecDepth 20000 in
theorem kw_43 : (Cond.code yX1_init cX1_init 2 none) ∈ gw := gw_mem 43 (by decide +kernel) rfl
set_option maxRecDepth 20000 in
theorem kw_44 : (Cond.methodLink RX1 3 objectInit) ∈ gw := gw_mem 44 (by decide +kernel) rfl
set_option maxRecDepth 20000 in
theorem kw_45 : (Cond.classLink RX1 11 "[[I") ∈ gw := gw_mem 45 (by decide +kernel) rfl
set_option maxRecDepth 20000 in
theorem kw_47 : (Cond.methodLink RX1 20 yJ7_fill_53178) ∈ gw := gw_mem 47 (by decide +kernel) rfl
set_option maxRecDepth 20000 in
theorem kw_48 : (Cond.static yJ7_fill_53178) ∈ gw := gw_mem 48 (by decide +kernel) rfl
set_option maxRecDepth 20000 in
theorem kw_49 : (Cond.code yJ7_fill_53178 cJ7_fill_53178 4 none) ∈ gw := gw_mem 49 (by decide +kernel) rfl
set_option maxRecDepth 20000 in
theorem kw_50 : (Cond.fieldLink RX1 13 "GlassLabels$Memory" "leastAtEnd" "[[I") ∈ gw := gw_mem 50 (by decide +kernel) rfl
set_option maxRecDepth 20000 in
theorem kw_51 : (Cond.fieldLink RX1 16 "GlassLabels$Memory" "leastEnded" "[I") ∈ gw := gw_mem 51 (by decide +kernel) rfl
set_option maxRecDepth 20000 in
theorem kw_52 : (Cond.laysFinal "GlassLabels$Memory" "GlassLabels$Memory" "leastAtEnd" "[[I") ∈ gw := gw_mem 52 (by decide +kernel) rfl
set_option maxRecDepth 20000 in
theorem kw_53 : (Cond.soleField "GlassLabels$Memory" "leastAtEnd") ∈ gw := gw_mem 53 (by decide +kernel) rfl
set_option maxRecDepth 20000 in
theorem kw_54 : (Cond.laysFinal "GlassLabels$Memory" "GlassLabels$Memory" "leastEnded" "[I") ∈ gw := gw_mem 54 (by decide +kernel) rfl
set_option maxRecDepth 20000 in
theorem kw_55 : (Cond.soleField "GlassLabels$Memory" "leastEnded") ∈ gw := gw_mem 55 (by decide +kernel) rfl
set_option maxRecDepth 20000 in
theorem kw_56 : (Cond.superclass "GlassLabels$Memory" "java/lang/Object") ∈ gw := gw_mem 56 (by decide +kernel) rfl
set_option maxRecDepth 20000 in
theorem kw_57 : (Cond.arrayClass FieldType.int) ∈ gw := gw_mem 57 (by decide +kernel) rfl
set_option maxRecDepth 20000 in
theorem kw_58 : (Cond.instantiable RX0 8) ∈ gw := gw_mem 58 (by decide +kernel) rfl
set_option maxRecDepth 20000 in
theorem kw_60 : (Cond.instanceMethod yX0_init) ∈ gw := gw_mem 60 (by decide +kernel) rfl
set_option maxRecDepth 20000 in
theorem kw_61 : (Cond.code yX0_init cX0_init 1 none) ∈ gw := gw_mem 61 (by decide +kernel) rfl
set_option maxRecDepth 20000 in
theorem kw_62 : (Cond.methodLink RX0 3 objectInit) ∈ gw := gw_mem 62 (by decide +kernel) rfl
set_option maxRecDepth 20000 in
theorem kw_63 : (Cond.fieldLink RX0 9 "GlassLabels$Label" "ware" "I") ∈ gw := gw_mem 63 (by decide +kernel) rfl
set_option maxRecDepth 20000 in
theorem kw_64 : (Cond.fieldLink RX2 45 "GlassLabels$Label" "ware" "I") ∈ gw := gw_mem 64 (by decide +kernel) rfl
set_option maxRecDepth 20000 in
theorem kw_65 : (Cond.fieldLink RX0 15 "GlassLabels$Label" "shown" "I") ∈ gw := gw_mem 65 (by decide +kernel) rfl
set_option maxRecDepth 20000 in
theorem kw_66 : (Cond.fieldLink RX2 59 "GlassLabels$Label" "shown" "I") ∈ gw := gw_mem 66 (by decide +kernel) rfl
set_option maxRecDepth 20000 in
theorem kw_67 : (Cond.fieldLink RX0 18 "GlassLabels$Label" "ghosts" "I") ∈ gw := gw_mem 67 (by decide +kernel) rfl
set_option maxRecDepth 20000 in
theorem kw_68 : (Cond.fieldLink RX2 94 "GlassLabels$Label" "ghosts" "I") ∈ gw := gw_mem 68 (by decide +kernel) rfl
set_option maxRecDepth 20000 in
theorem kw_69 : (Cond.fieldLink RX0 21 "GlassLabels$Label" "battery" "I") ∈ gw := gw_mem 69 (by decide +kernel) rfl
set_option maxRecDepth 20000 in
theorem kw_70 : (Cond.fieldLink RX2 71 "GlassLabels$Label" "battery" "I") ∈ gw := gw_mem 70 (by decide +kernel) rfl
set_option maxRecDepth 20000 in
theorem kw_71 : (Cond.fieldLink RX0 24 "GlassLabels$Label" "order" "I") ∈ gw := gw_mem 71 (by decide +kernel) rfl
set_option maxRecDepth 20000 in
theorem kw_72 : (Cond.fieldLink RX2 68 "GlassLabels$Label" "order" "I") ∈ gw := gw_mem 72 (by decide +kernel) rfl
set_option maxRecDepth 20000 in
theorem kw_73 : (Cond.fieldLink RX0 27 "GlassLabels$Label" "dueSince" "I") ∈ gw := gw_mem 73 (by decide +kernel) rfl
set_option maxRecDepth 20000 in
theorem kw_74 : (Cond.fieldLink RX2 125 "GlassLabels$Label" "dueSince" "I") ∈ gw := gw_mem 74 (by decide +kernel) rfl
set_option maxRecDepth 20000 in
theorem kw_75 : (Cond.fieldLink RX0 30 "GlassLabels$Label" "sendingsToLose" "I") ∈ gw := gw_mem 75 (by decide +kernel) rfl
set_option maxRecDepth 20000 in
theorem kw_76 : (Cond.fieldLink RX2 74 "GlassLabels$Label" "sendingsToLose" "I") ∈ gw := gw_mem 76 (by decide +kernel) rfl
set_option maxRecDepth 20000 in
theorem kw_77 : (Cond.fieldLink RX0 33 "GlassLabels$Label" "answersToLose" "I") ∈ gw := gw_mem 77 (by decide +kernel) rfl
set_option maxRecDepth 20000 in
theorem kw_78 : (Cond.fieldLink RX2 77 "GlassLabels$Label" "answersToLose" "I") ∈ gw := gw_mem 78 (by decide +kernel) rfl
set_option maxRecDepth 20000 in
theorem kw_79 : (Cond.lays "GlassLabels$Label" "GlassLabels$Label" "ware" "I") ∈ gw := gw_mem 79 (by decide +kernel) rfl
set_option maxRecDepth 20000 in
theorem kw_80 : (Cond.soleField "GlassLabels$Label" "ware") ∈ gw := gw_mem 80 (by decide +kernel) rfl
set_option maxRecDepth 20000 in
theorem kw_81 : (Cond.lays "GlassLabels$Label" "GlassLabels$Label" "shown" "I") ∈ gw := gw_mem 81 (by decide +kernel) rfl
set_option maxRecDepth 20000 in
theorem kw_82 : (Cond.soleField "GlassLabels$Label" "shown") ∈ gw := gw_mem 82 (by decide +kernel) rfl
set_option maxRecDepth 20000 in
theorem kw_83 : (Cond.lays "GlassLabels$Label" "GlassLabels$Label" "ghosts" "I") ∈ gw := gw_mem 83 (by decide +kernel) rfl
set_option maxRecDepth 20000 in
theorem kw_84 : (Cond.soleField "GlassLabels$Label" "ghosts") ∈ gw := gw_mem 84 (by decide +kernel) rfl
set_option maxRecDepth 20000 in
theorem kw_85 : (Cond.lays "GlassLabels$Label" "GlassLabels$Label" "battery" "I") ∈ gw := gw_mem 85 (by decide +kernel) rfl
set_option maxRecDepth 20000 in
theorem kw_86 : (Cond.soleField "GlassLabels$Label" "battery") ∈ gw := gw_mem 86 (by decide +kernel) rfl
set_option maxRecDepth 20000 in
theorem kw_87 : (Cond.lays "GlassLabels$Label" "GlassLabels$Label" "order" "I") ∈ gw := gw_mem 87 (by decide +kernel) rfl
set_option maxRecDepth 20000 in
theorem kw_88 : (Cond.soleField "GlassLabels$Label" "order") ∈ gw := gw_mem 88 (by decide +kernel) rfl
set_option maxRecDepth 20000 in
theorem kw_89 : (Cond.lays "GlassLabels$Label" "GlassLabels$Label" "dueSince" "I") ∈ gw := gw_mem 89 (by decide +kernel) rfl
set_option maxRecDepth 20000 in
theorem kw_90 : (Cond.soleField "GlassLabels$Label" "dueSince") ∈ gw := gw_mem 90 (by decide +kernel) rfl
set_option maxRecDepth 20000 in
theorem kw_91 : (Cond.lays "GlassLabels$Label" "GlassLabels$Label" "sendingsToLose" "I") ∈ gw := gw_mem 91 (by decide +kernel) rfl
set_option maxRecDepth 20000 in
theorem kw_92 : (Cond.soleField "GlassLabels$Label" "sendingsToLose") ∈ gw := gw_mem 92 (by decide +kernel) rfl
set_option maxRecDepth 20000 in
theorem kw_93 : (Cond.lays "GlassLabels$Label" "GlassLabels$Label" "answersToLose" "I") ∈ gw := gw_mem 93 (by decide +kernel) rfl
set_option maxRecDepth 20000 in
theorem kw_94 : (Cond.soleField "GlassLabels$Label" "answersToLose") ∈ gw := gw_mem 94 (by decide +kernel) rfl
set_option maxRecDepth 20000 in
theorem kw_95 : (Cond.superclass "GlassLabels$Label" "java/lang/Object") ∈ gw := gw_mem 95 (by decide +kernel) rfl
set_option maxRecDepth 20000 in
theorem kw_96 : (Cond.fieldLink RX2 9 "GlassLabels" "prices" "[I") ∈ gw := gw_mem 96 (by decide +kernel) rfl
set_option maxRecDepth 20000 in
theorem kw_97 : (Cond.fieldLink RX2 15 "GlassLabels" "labels" "[LGlassLabels$Label;") ∈ gw := gw_mem 97 (by decide +kernel) rfl
set_option maxRecDepth 20000 in
theorem kw_98 : (Cond.fieldLink RX2 22 "GlassLabels" "memory" "LGlassLabels$Memory;") ∈ gw := gw_mem 98 (by decide +kernel) rfl
set_option maxRecDepth 20000 in
theorem kw_99 : (Cond.fieldLink RX2 26 "GlassLabels" "hung" "I") ∈ gw := gw_mem 99 (by decide +kernel) rfl
set_option maxRecDepth 20000 in
theorem kw_100 : (Cond.fieldLink RX2 30 "GlassLabels" "now" "I") ∈ gw := gw_mem 100 (by decide +kernel) rfl
set_option maxRecDepth 20000 in
theorem kw_101 : (Cond.fieldLink RX2 33 "GlassLabels" "lastOrder" "I") ∈ gw := gw_mem 101 (by decide +kernel) rfl
set_option maxRecDepth 20000 in
theorem kw_102 : (Cond.laysFinal "GlassLabels" "GlassLabels" "prices" "[I") ∈ gw := gw_mem 102 (by decide +kernel) rfl
set_option maxRecDepth 20000 in
theorem kw_103 : (Cond.soleField "GlassLabels" "prices") ∈ gw := gw_mem 103 (by decide +kernel) rfl
set_option maxRecDepth 20000 in
theorem kw_104 : (Cond.laysFinal "GlassLabels" "GlassLabels" "labels" "[LGlassLabels$Label;") ∈ gw := gw_mem 104 (by decide +kernel) rfl
set_option maxRecDepth 20000 in
theorem kw_105 : (Cond.soleField "GlassLabels" "labels") ∈ gw := gw_mem 105 (by decide +kernel) rfl
set_option maxRecDepth 20000 in
theorem kw_106 : (Cond.laysFinal "GlassLabels" "GlassLabels" "memory" "LGlassLabels$Memory;") ∈ gw := gw_mem 106 (by decide +kernel) rfl
set_option maxRecDepth 20000 in
theorem kw_107 : (Cond.soleField "GlassLabels" "memory") ∈ gw := gw_mem 107 (by decide +kernel) rfl
set_option maxRecDepth 20000 in
theorem kw_108 : (Cond.lays "GlassLabels" "GlassLabels" "hung" "I") ∈ gw := gw_mem 108 (by decide +kernel) rfl
set_option maxRecDepth 20000 in
theorem kw_109 : (Cond.soleField "GlassLabels" "hung") ∈ gw := gw_mem 109 (by decide +kernel) rfl
set_option maxRecDepth 20000 in
theorem kw_110 : (Cond.lays "GlassLabels" "GlassLabels" "now" "I") ∈ gw := gw_mem 110 (by decide +kernel) rfl
set_option maxRecDepth 20000 in
theorem kw_111 : (Cond.soleField "GlassLabels" "now") ∈ gw := gw_mem 111 (by decide +kernel) rfl
set_option maxRecDepth 20000 in
theorem kw_112 : (Cond.lays "GlassLabels" "GlassLabels" "lastOrder" "I") ∈ gw := gw_mem 112 (by decide +kernel) rfl
set_option maxRecDepth 20000 in
theorem kw_113 : (Cond.soleField "GlassLabels" "lastOrder") ∈ gw := gw_mem 113 (by decide +kernel) rfl
set_option maxRecDepth 20000 in
theorem kw_114 : (Cond.superclass "GlassLabels" "java/lang/Object") ∈ gw := gw_mem 114 (by decide +kernel) rfl
set_option maxRecDepth 20000 in
theorem kw_115 : (Cond.methodLink RL 96 yX2_time) ∈ gw := gw_mem 115 (by decide +kernel) rfl
set_option maxRecDepth 20000 in
theorem kw_116 : (Cond.instanceMethod yX2_time) ∈ gw := gw_mem 116 (by decide +kernel) rfl
set_option maxRecDepth 20000 in
theorem kw_117 : (Cond.selects RX2 yX2_time yX2_time) ∈ gw := gw_mem 117 (by decide +kernel) rfl
set_option maxRecDepth 20000 in
theorem kw_118 : (Cond.code yX2_time cX2_time 1 (some FieldType.int)) ∈ gw := gw_mem 118 (by decide +kernel) rfl
set_option maxRecDepth 20000 in
theorem kw_119 : (Cond.methodLink RL 103 yX2_orders) ∈ gw := gw_mem 119 (by decide +kernel) rfl
set_option maxRecDepth 20000 in
theorem kw_120 : (Cond.instanceMethod yX2_orders) ∈ gw := gw_mem 120 (by decide +kernel) rfl
set_option maxRecDepth 20000 in
theorem kw_121 : (Cond.selects RX2 yX2_orders yX2_orders) ∈ gw := gw_mem 121 (by decide +kernel) rfl
set_option maxRecDepth 20000 in
theorem kw_122 : (Cond.code yX2_orders cX2_orders 3 (some FieldType.int)) ∈ gw := gw_mem 122 (by decide +kernel) rfl
set_option maxRecDepth 20000 in
theorem kw_123 : (Cond.methodLink RL 107 yX2_nextToSend) ∈ gw := gw_mem 123 (by decide +kernel) rfl
set_option maxRecDepth 20000 in
theorem kw_124 : (Cond.instanceMethod yX2_nextToSend) ∈ gw := gw_mem 124 (by decide +kernel) rfl
set_option maxRecDepth 20000 in
theorem kw_125 : (Cond.selects RX2 yX2_nextToSend yX2_nextToSend) ∈ gw := gw_mem 125 (by decide +kernel) rfl
set_option maxRecDepth 20000 in
theorem kw_126 : (Cond.code yX2_nextToSend cX2_nextToSend 3 (some FieldType.int)) ∈ gw := gw_mem 126 (by decide +kernel) rfl
set_option maxRecDepth 20000 in
theorem kw_127 : (Cond.methodLink RX2 86 yX0_isDue) ∈ gw := gw_mem 127 (by decide +kernel) rfl
set_option maxRecDepth 20000 in
theorem kw_128 : (Cond.instanceMethod yX0_isDue) ∈ gw := gw_mem 128 (by decide +kernel) rfl
set_option maxRecDepth 20000 in
theorem kw_129 : (Cond.selects RX0 yX0_isDue yX0_isDue) ∈ gw := gw_mem 129 (by decide +kernel) rfl
set_option maxRecDepth 20000 in
theorem kw_130 : (Cond.code yX0_isDue cX0_isDue 2 (some FieldType.boolean)) ∈ gw := gw_mem 130 (by decide +kernel) rfl
set_option maxRecDepth 20000 in
theorem kw_131 : (Cond.methodLink RX2 90 yX0_isSentBefore) ∈ gw := gw_mem 131 (by decide +kernel) rfl
set_option maxRecDepth 20000 in
theorem kw_132 : (Cond.instanceMethod yX0_isSentBefore) ∈ gw := gw_mem 132 (by decide +kernel) rfl
set_option maxRecDepth 20000 in
theorem kw_133 : (Cond.selects RX0 yX0_isSentBefore yX0_isSentBefore) ∈ gw := gw_mem 133 (by decide +kernel) rfl
set_option maxRecDepth 20000 in
theorem kw_134 : (Cond.code yX0_isSentBefore cX0_isSentBefore 2 (some FieldType.boolean)) ∈ gw := gw_mem 134 (by decide +kernel) rfl
set_option maxRecDepth 20000 in
theorem kw_135 : (Cond.methodLink RL 120 yX2_lies) ∈ gw := gw_mem 135 (by decide +kernel) rfl
set_option maxRecDepth 20000 in
theorem kw_136 : (Cond.instanceMethod yX2_lies) ∈ gw := gw_mem 136 (by decide +kernel) rfl
set_option maxRecDepth 20000 in
theorem kw_137 : (Cond.selects RX2 yX2_lies yX2_lies) ∈ gw := gw_mem 137 (by decide +kernel) rfl
set_option maxRecDepth 20000 in
theorem kw_138 : (Cond.code yX2_lies cX2_lies 3 (some FieldType.int)) ∈ gw := gw_mem 138 (by decide +kernel) rfl
set_option maxRecDepth 20000 in
theorem kw_139 : (Cond.methodLink RL 64 yL_setPrice) ∈ gw := gw_mem 139 (by decide +kernel) rfl
set_option maxRecDepth 20000 in
theorem kw_140 : (Cond.static yL_setPrice) ∈ gw := gw_mem 140 (by decide +kernel) rfl
set_option maxRecDepth 20000 in
theorem kw_141 : (Cond.codeWith yL_setPrice cL_setPrice 5 (some FieldType.int) [(0, 10, 13, 13), (0, 10, 17, 15)]) ∈ gw := gw_mem 141 (by decide +kernel) rfl
set_option maxRecDepth 20000 in
theorem kw_142 : (Cond.classLink RL 13 "java/lang/IndexOutOfBoundsException") ∈ gw := gw_mem 142 (by decide +kernel) rfl
set_option maxRecDepth 20000 in
theorem kw_143 : (Cond.classLink RL 15 "java/lang/IllegalArgumentException") ∈ gw := gw_mem 143 (by decide +kernel) rfl
set_option maxRecDepth 20000 in
theorem kw_144 : (Cond.methodLink RL 7 yX2_setPrice) ∈ gw := gw_mem 144 (by decide +kernel) rfl
set_option maxRecDepth 20000 in
theorem kw_145 : (Cond.instanceMethod yX2_setPrice) ∈ gw := gw_mem 145 (by decide +kernel) rfl
set_option maxRecDepth 20000 in
theorem kw_146 : (Cond.selects RX2 yX2_setPrice yX2_setPrice) ∈ gw := gw_mem 146 (by decide +kernel) rfl
set_option maxRecDepth 20000 in
theorem kw_147 : (Cond.code yX2_setPrice cX2_setPrice 5 (some FieldType.int)) ∈ gw := gw_mem 147 (by decide +kernel) rfl
set_option maxRecDepth 20000 in
theorem kw_148 : (Cond.methodLink RX2 37 yX2_needWare) ∈ gw := gw_mem 148 (by decide +kernel) rfl
set_option maxRecDepth 20000 in
theorem kw_149 : (Cond.static yX2_needWare) ∈ gw := gw_mem 149 (by decide +kernel) rfl
set_option maxRecDepth 20000 in
theorem kw_150 : (Cond.code yX2_needWare cX2_needWare 1 none) ∈ gw := gw_mem 150 (by decide +kernel) rfl
set_option maxRecDepth 20000 in
theorem kw_151 : (Cond.classLink RX2 113 "java/lang/IndexOutOfBoundsException") ∈ gw := gw_mem 151 (by decide +kernel) rfl
set_option maxRecDepth 20000 in
theorem kw_152 : (Cond.instantiable "java/lang/IndexOutOfBoundsException" 6) ∈ gw := gw_mem 152 (by decide +kernel) rfl
set_option maxRecDepth 20000 in
theorem kw_160 : (Cond.selects "java/lang/IndexOutOfBoundsException" ⟨"java/lang/Throwable", "fillInStackTrace", "(I)Ljava/lang/Throwable;"⟩ ⟨"java/lang/Throwable", "fillInStackTrace", "(I)Ljava/lang/Throwable;"⟩) ∈ gw := gw_mem 160 (by decide +kernel) rfl
set_option maxRecDepth 20000 in
theorem kw_161 : (Cond.selects "java/lang/IndexOutOfBoundsException" ⟨"java/lang/Throwable", "fillInStackTrace", "()Ljava/lang/Throwable;"⟩ ⟨"java/lang/Throwable", "fillInStackTrace", "()Ljava/lang/Throwable;"⟩) ∈ gw := gw_mem 161 (by decide +kernel) rfl
set_option maxRecDepth 20000 in
theorem kw_162 : (Cond.lays "java/lang/IndexOutOfBoundsException" "java/lang/Throwable" "cause" "Ljava/lang/Throwable;") ∈ gw := gw_mem 162 (by decide +kernel) rfl
set_option maxRecDepth 20000 in
theorem kw_163 : (Cond.lays "java/lang/Throwable" "java/lang/Throwable" "cause" "Ljava/lang/Throwable;") ∈ gw := gw_mem 163 (by decide +kernel) rfl
set_option maxRecDepth 20000 in
theorem kw_164 : (Cond.lays "java/lang/IndexOutOfBoundsException" "java/lang/Throwable" "stackTrace" "[Ljava/lang/StackTraceElement;") ∈ gw := gw_mem 164 (by decide +kernel) rfl
set_option maxRecDepth 20000 in
theorem kw_165 : (Cond.lays "java/lang/Throwable" "java/lang/Throwable" "stackTrace" "[Ljava/lang/StackTraceElement;") ∈ gw := gw_mem 165 (by decide +kernel) rfl
set_option maxRecDepth 20000 in
theorem kw_166 : (Cond.lays "java/lang/IndexOutOfBoundsException" "java/lang/Throwable" "suppressedExceptions" "Ljava/util/List;") ∈ gw := gw_mem 166 (by decide +kernel) rfl
set_option maxRecDepth 20000 in
theorem kw_167 : (Cond.lays "java/lang/Throwable" "java/lang/Throwable" "suppressedExceptions" "Ljava/util/List;") ∈ gw := gw_mem 167 (by decide +kernel) rfl
set_option maxRecDepth 20000 in
theorem kw_168 : (Cond.lays "java/lang/IndexOutOfBoundsException" "java/lang/Throwable" "detailMessage" "Ljava/lang/String;") ∈ gw := gw_mem 168 (by decide +kernel) rfl
set_option maxRecDepth 20000 in
theorem kw_169 : (Cond.lays "java/lang/Throwable" "java/lang/Throwable" "detailMessage" "Ljava/lang/String;") ∈ gw := gw_mem 169 (by decide +kernel) rfl
set_option maxRecDepth 20000 in
theorem kw_170 : (Cond.lays "java/lang/IndexOutOfBoundsException" "java/lang/Throwable" "backtrace" "Ljava/lang/Object;") ∈ gw := gw_mem 170 (by decide +kernel) rfl
set_option maxRecDepth 20000 in
theorem kw_171 : (Cond.lays "java/lang/Throwable" "java/lang/Throwable" "backtrace" "Ljava/lang/Object;") ∈ gw := gw_mem 171 (by decide +kernel) rfl
set_option maxRecDepth 20000 in
theorem kw_172 : (Cond.fieldLink "java/lang/Throwable" 198 "java/lang/Throwable" "backtrace" "Ljava/lang/Object;") ∈ gw := gw_mem 172 (by decide +kernel) rfl
set_option maxRecDepth 20000 in
theorem kw_173 : (Cond.superclass "java/lang/Throwable" "java/lang/Object") ∈ gw := gw_mem 173 (by decide +kernel) rfl
set_option maxRecDepth 20000 in
theorem kw_174 : (Cond.instanceMethod ⟨"java/lang/Throwable", "<init>", "()V"⟩) ∈ gw := gw_mem 174 (by decide +kernel) rfl
set_option maxRecDepth 20000 in
theorem kw_175 : (Cond.code ⟨"java/lang/Throwable", "<init>", "()V"⟩ prog_13_method_1_code 1 none) ∈ gw := gw_mem 175 (by decide +kernel) rfl
set_option maxRecDepth 20000 in
theorem kw_176 : (Cond.methodLink "java/lang/Throwable" 1 objectInit) ∈ gw := gw_mem 176 (by decide +kernel) rfl
set_option maxRecDepth 20000 in
theorem kw_177 : (Cond.fieldLink "java/lang/Throwable" 13 "java/lang/Throwable" "UNASSIGNED_STACK" "[Ljava/lang/StackTraceElement;") ∈ gw := gw_mem 177 (by decide +kernel) rfl
set_option maxRecDepth 20000 in
theorem kw_179 : (Cond.fieldLink "java/lang/Throwable" 20 "java/lang/Throwable" "SUPPRESSED_SENTINEL" "Ljava/util/List;") ∈ gw := gw_mem 179 (by decide +kernel) rfl
set_option maxRecDepth 20000 in
theorem kw_181 : (Cond.methodLink "java/lang/Throwable" 27 ⟨"java/lang/Throwable", "fillInStackTrace", "()Ljava/lang/Throwable;"⟩) ∈ gw := gw_mem 181 (by decide +kernel) rfl
set_option maxRecDepth 20000 in
theorem kw_182 : (Cond.instanceMethod ⟨"java/lang/Throwable", "fillInStackTrace", "()Ljava/lang/Throwable;"⟩) ∈ gw := gw_mem 182 (by decide +kernel) rfl
set_option maxRecDepth 20000 in
theorem kw_183 : (Cond.sameMethod "java/lang/Throwable" "java/lang/Throwable" "fillInStackTrace" "()Ljava/lang/Throwable;") ∈ gw := gw_mem 183 (by decide +kernel) rfl
set_option maxRecDepth 20000 in
theorem kw_184 : (Cond.selects "java/lang/IllegalArgumentException" ⟨"java/lang/Throwable", "fillInStackTrace", "()Ljava/lang/Throwable;"⟩ ⟨"java/lang/Throwable", "fillInStackTrace", "()Ljava/lang/Throwable;"⟩) ∈ gw := gw_mem 184 (by decide +kernel) rfl
set_option maxRecDepth 20000 in
theorem kw_185 : (Cond.selects "java/lang/IllegalStateException" ⟨"java/lang/Throwable", "fillInStackTrace", "()Ljava/lang/Throwable;"⟩ ⟨"java/lang/Throwable", "fillInStackTrace", "()Ljava/lang/Throwable;"⟩) ∈ gw := gw_mem 185 (by decide +kernel) rfl
set_option maxRecDepth 20000 in
theorem kw_186 : (Cond.codeSync ⟨"java/lang/Throwable", "fillInStackTrace", "()Ljava/lang/Throwable;"⟩ prog_13_method_18_code 1 (some (FieldType.object "java/lang/Throwable"))) ∈ gw := gw_mem 186 (by decide +kernel) rfl
set_option maxRecDepth 20000 in
theorem kw_187 : (Cond.methodLink "java/lang/Throwable" 202 ⟨"java/lang/Throwable", "fillInStackTrace", "(I)Ljava/lang/Throwable;"⟩) ∈ gw := gw_mem 187 (by decide +kernel) rfl
set_option maxRecDepth 20000 in
theorem kw_189 : (Cond.instanceMethod ⟨"java/lang/Throwable", "fillInStackTrace", "(I)Ljava/lang/Throwable;"⟩) ∈ gw := gw_mem 189 (by decide +kernel) rfl
set_option maxRecDepth 20000 in
theorem kw_190 : (Cond.instantiable "java/lang/Throwable" 6) ∈ gw := gw_mem 190 (by decide +kernel) rfl
set_option maxRecDepth 20000 in
theorem kw_191 : (Cond.native ⟨"java/lang/Throwable", "fillInStackTrace", "(I)Ljava/lang/Throwable;"⟩) ∈ gw := gw_mem 191 (by decide +kernel) rfl
set_option maxRecDepth 20000 in
theorem kw_193 : (Cond.methodLink RX2 117 ⟨"java/lang/IndexOutOfBoundsException", "<init>", "(Ljava/lang/String;)V"⟩) ∈ gw := gw_mem 193 (by decide +kernel) rfl
set_option maxRecDepth 20000 in
theorem kw_194 : (Cond.instanceMethod ⟨"java/lang/IndexOutOfBoundsException", "<init>", "(Ljava/lang/String;)V"⟩) ∈ gw := gw_mem 194 (by decide +kernel) rfl
set_option maxRecDepth 20000 in
theorem kw_195 : (Cond.code ⟨"java/lang/IndexOutOfBoundsException", "<init>", "(Ljava/lang/String;)V"⟩ prog_9_method_2_code 2 none) ∈ gw := gw_mem 195 (by decide +kernel) rfl
set_option maxRecDepth 20000 in
theorem kw_196 : (Cond.methodLink "java/lang/IndexOutOfBoundsException" 7 ⟨"java/lang/RuntimeException", "<init>", "(Ljava/lang/String;)V"⟩) ∈ gw := gw_mem 196 (by decide +kernel) rfl
set_option maxRecDepth 20000 in
theorem kw_197 : (Cond.instanceMethod ⟨"java/lang/RuntimeException", "<init>", "(Ljava/lang/String;)V"⟩) ∈ gw := gw_mem 197 (by decide +kernel) rfl
set_option maxRecDepth 20000 in
theorem kw_198 : (Cond.code ⟨"java/lang/RuntimeException", "<init>", "(Ljava/lang/String;)V"⟩ prog_11_method_2_code 2 none) ∈ gw := gw_mem 198 (by decide +kernel) rfl
set_option maxRecDepth 20000 in
theorem kw_199 : (Cond.methodLink "java/lang/RuntimeException" 7 ⟨"java/lang/Exception", "<init>", "(Ljava/lang/String;)V"⟩) ∈ gw := gw_mem 199 (by decide +kernel) rfl
set_option maxRecDepth 20000 in
theorem kw_200 : (Cond.instanceMethod ⟨"java/lang/Exception", "<init>", "(Ljava/lang/String;)V"⟩) ∈ gw := gw_mem 200 (by decide +kernel) rfl
set_option maxRecDepth 20000 in
theorem kw_201 : (Cond.code ⟨"java/lang/Exception", "<init>", "(Ljava/lang/String;)V"⟩ prog_6_method_2_code 2 none) ∈ gw := gw_mem 201 (by decide +kernel) rfl
set_option maxRecDepth 20000 in
theorem kw_202 : (Cond.methodLink "java/lang/Exception" 7 ⟨"java/lang/Throwable", "<init>", "(Ljava/lang/String;)V"⟩) ∈ gw := gw_mem 202 (by decide +kernel) rfl
set_option maxRecDepth 20000 in
theorem kw_203 : (Cond.instanceMethod ⟨"java/lang/Throwable", "<init>", "(Ljava/lang/String;)V"⟩) ∈ gw := gw_mem 203 (by decide +kernel) rfl
set_option maxRecDepth 20000 in
theorem kw_204 : (Cond.code ⟨"java/lang/Throwable", "<init>", "(Ljava/lang/String;)V"⟩ prog_13_method_2_code 2 none) ∈ gw := gw_mem 204 (by decide +kernel) rfl
set_option maxRecDepth 20000 in
theorem kw_206 : (Cond.fieldLink "java/lang/Throwable" 31 "java/lang/Throwable" "detailMessage" "Ljava/lang/String;") ∈ gw := gw_mem 206 (by decide +kernel) rfl
set_option maxRecDepth 20000 in
theorem kw_207 : (Cond.fieldLink "java/lang/Throwable" 7 "java/lang/Throwable" "cause" "Ljava/lang/Throwable;") ∈ gw := gw_mem 207 (by decide +kernel) rfl
set_option maxRecDepth 20000 in
theorem kw_208 : (Cond.fieldLink "java/lang/Throwable" 17 "java/lang/Throwable" "stackTrace" "[Ljava/lang/StackTraceElement;") ∈ gw := gw_mem 208 (by decide +kernel) rfl
set_option maxRecDepth 20000 in
theorem kw_209 : (Cond.fieldLink "java/lang/Throwable" 24 "java/lang/Throwable" "suppressedExceptions" "Ljava/util/List;") ∈ gw := gw_mem 209 (by decide +kernel) rfl
set_option maxRecDepth 20000 in
theorem kw_210 : (Cond.soleField "java/lang/Throwable" "backtrace") ∈ gw := gw_mem 210 (by decide +kernel) rfl
set_option maxRecDepth 20000 in
theorem kw_211 : (Cond.soleField "java/lang/Throwable" "detailMessage") ∈ gw := gw_mem 211 (by decide +kernel) rfl
set_option maxRecDepth 20000 in
theorem kw_212 : (Cond.soleField "java/lang/Throwable" "cause") ∈ gw := gw_mem 212 (by decide +kernel) rfl
set_option maxRecDepth 20000 in
theorem kw_213 : (Cond.soleField "java/lang/Throwable" "stackTrace") ∈ gw := gw_mem 213 (by decide +kernel) rfl
set_option maxRecDepth 20000 in
theorem kw_214 : (Cond.lays "java/lang/IndexOutOfBoundsException" "java/lang/Throwable" "depth" "I") ∈ gw := gw_mem 214 (by decide +kernel) rfl
set_option maxRecDepth 20000 in
theorem kw_215 : (Cond.soleField "java/lang/Throwable" "depth") ∈ gw := gw_mem 215 (by decide +kernel) rfl
set_option maxRecDepth 20000 in
theorem kw_216 : (Cond.soleField "java/lang/Throwable" "suppressedExceptions") ∈ gw := gw_mem 216 (by decide +kernel) rfl
set_option maxRecDepth 20000 in
theorem kw_217 : (Cond.superclass "java/lang/IndexOutOfBoundsException" "java/lang/RuntimeException") ∈ gw := gw_mem 217 (by decide +kernel) rfl
set_option maxRecDepth 20000 in
theorem kw_218 : (Cond.arrayClass FieldType.byte) ∈ gw := gw_mem 218 (by decide +kernel) rfl
set_option maxRecDepth 20000 in
theorem kw_219 : (Cond.methodLink RX2 41 yX2_needWithin) ∈ gw := gw_mem 219 (by decide +kernel) rfl
set_option maxRecDepth 20000 in
theorem kw_220 : (Cond.static yX2_needWithin) ∈ gw := gw_mem 220 (by decide +kernel) rfl
set_option maxRecDepth 20000 in
theorem kw_221 : (Cond.code yX2_needWithin cX2_needWithin 3 none) ∈ gw := gw_mem 221 (by decide +kernel) rfl
set_option maxRecDepth 20000 in
theorem kw_222 : (Cond.classLink RX2 118 "java/lang/IllegalArgumentException") ∈ gw := gw_mem 222 (by decide +kernel) rfl
set_option maxRecDepth 20000 in
theorem kw_223 : (Cond.instantiable "java/lang/IllegalArgumentException" 6) ∈ gw := gw_mem 223 (by decide +kernel) rfl
set_option maxRecDepth 20000 in
theorem kw_225 : (Cond.selects "java/lang/IllegalArgumentException" ⟨"java/lang/Throwable", "fillInStackTrace", "(I)Ljava/lang/Throwable;"⟩ ⟨"java/lang/Throwable", "fillInStackTrace", "(I)Ljava/lang/Throwable;"⟩) ∈ gw := gw_mem 225 (by decide +kernel) rfl
set_option maxRecDepth 20000 in
theorem kw_226 : (Cond.lays "java/lang/IllegalArgumentException" "java/lang/Throwable" "cause" "Ljava/lang/Throwable;") ∈ gw := gw_mem 226 (by decide +kernel) rfl
set_option maxRecDepth 20000 in
theorem kw_227 : (Cond.lays "java/lang/IllegalArgumentException" "java/lang/Throwable" "stackTrace" "[Ljava/lang/StackTraceElement;") ∈ gw := gw_mem 227 (by decide +kernel) rfl
set_option maxRecDepth 20000 in
theorem kw_228 : (Cond.lays "java/lang/IllegalArgumentException" "java/lang/Throwable" "suppressedExceptions" "Ljava/util/List;") ∈ gw := gw_mem 228 (by decide +kernel) rfl
set_option maxRecDepth 20000 in
theorem kw_229 : (Cond.lays "java/lang/IllegalArgumentException" "java/lang/Throwable" "detailMessage" "Ljava/lang/String;") ∈ gw := gw_mem 229 (by decide +kernel) rfl
set_option maxRecDepth 20000 in
theorem kw_230 : (Cond.lays "java/lang/IllegalArgumentException" "java/lang/Throwable" "backtrace" "Ljava/lang/Object;") ∈ gw := gw_mem 230 (by decide +kernel) rfl
set_option maxRecDepth 20000 in
theorem kw_232 : (Cond.methodLink RX2 122 ⟨"java/lang/IllegalArgumentException", "<init>", "(Ljava/lang/String;)V"⟩) ∈ gw := gw_mem 232 (by decide +kernel) rfl
set_option maxRecDepth 20000 in
theorem kw_233 : (Cond.instanceMethod ⟨"java/lang/IllegalArgumentException", "<init>", "(Ljava/lang/String;)V"⟩) ∈ gw := gw_mem 233 (by decide +kernel) rfl
set_option maxRecDepth 20000 in
theorem kw_234 : (Cond.code ⟨"java/lang/IllegalArgumentException", "<init>", "(Ljava/lang/String;)V"⟩ prog_7_method_2_code 2 none) ∈ gw := gw_mem 234 (by decide +kernel) rfl
set_option maxRecDepth 20000 in
theorem kw_235 : (Cond.methodLink "java/lang/IllegalArgumentException" 7 ⟨"java/lang/RuntimeException", "<init>", "(Ljava/lang/String;)V"⟩) ∈ gw := gw_mem 235 (by decide +kernel) rfl
set_option maxRecDepth 20000 in
theorem kw_236 : (Cond.lays "java/lang/IllegalArgumentException" "java/lang/Throwable" "depth" "I") ∈ gw := gw_mem 236 (by decide +kernel) rfl
set_option maxRecDepth 20000 in
theorem kw_237 : (Cond.superclass "java/lang/IllegalArgumentException" "java/lang/RuntimeException") ∈ gw := gw_mem 237 (by decide +kernel) rfl
set_option maxRecDepth 20000 in
theorem kw_238 : (Cond.methodLink RX2 48 yX2_giveOrder) ∈ gw := gw_mem 238 (by decide +kernel) rfl
set_option maxRecDepth 20000 in
theorem kw_240 : (Cond.instanceMethod yX2_giveOrder) ∈ gw := gw_mem 240 (by decide +kernel) rfl
set_option maxRecDepth 20000 in
theorem kw_241 : (Cond.code yX2_giveOrder cX2_giveOrder 2 none) ∈ gw := gw_mem 241 (by decide +kernel) rfl
set_option maxRecDepth 20000 in
theorem kw_242 : (Cond.methodLink RL 74 yL_price) ∈ gw := gw_mem 242 (by decide +kernel) rfl
set_option maxRecDepth 20000 in
theorem kw_243 : (Cond.static yL_price) ∈ gw := gw_mem 243 (by decide +kernel) rfl
set_option maxRecDepth 20000 in
theorem kw_244 : (Cond.codeWith yL_price cL_price 4 (some FieldType.int) [(0, 9, 12, 13)]) ∈ gw := gw_mem 244 (by decide +kernel) rfl
set_option maxRecDepth 20000 in
theorem kw_245 : (Cond.methodLink RL 17 yX2_price) ∈ gw := gw_mem 245 (by decide +kernel) rfl
set_option maxRecDepth 20000 in
theorem kw_246 : (Cond.instanceMethod yX2_price) ∈ gw := gw_mem 246 (by decide +kernel) rfl
set_option maxRecDepth 20000 in
theorem kw_247 : (Cond.selects RX2 yX2_price yX2_price) ∈ gw := gw_mem 247 (by decide +kernel) rfl
set_option maxRecDepth 20000 in
theorem kw_248 : (Cond.code yX2_price cX2_price 2 (some FieldType.int)) ∈ gw := gw_mem 248 (by decide +kernel) rfl
set_option maxRecDepth 20000 in
theorem kw_249 : (Cond.methodLink RL 78 yL_hang) ∈ gw := gw_mem 249 (by decide +kernel) rfl
set_option maxRecDepth 20000 in
theorem kw_250 : (Cond.static yL_hang) ∈ gw := gw_mem 250 (by decide +kernel) rfl
set_option maxRecDepth 20000 in
theorem kw_251 : (Cond.codeWith yL_hang cL_hang 4 (some FieldType.int) [(0, 9, 12, 13), (0, 9, 15, 24)]) ∈ gw := gw_mem 251 (by decide +kernel) rfl
set_option maxRecDepth 20000 in
theorem kw_252 : (Cond.classLink RL 24 "java/lang/IllegalStateException") ∈ gw := gw_mem 252 (by decide +kernel) rfl
set_option maxRecDepth 20000 in
theorem kw_253 : (Cond.methodLink RL 21 yX2_hang) ∈ gw := gw_mem 253 (by decide +kernel) rfl
set_option maxRecDepth 20000 in
theorem kw_254 : (Cond.instanceMethod yX2_hang) ∈ gw := gw_mem 254 (by decide +kernel) rfl
set_option maxRecDepth 20000 in
theorem kw_255 : (Cond.selects RX2 yX2_hang yX2_hang) ∈ gw := gw_mem 255 (by decide +kernel) rfl
set_option maxRecDepth 20000 in
theorem kw_256 : (Cond.code yX2_hang cX2_hang 2 (some FieldType.int)) ∈ gw := gw_mem 256 (by decide +kernel) rfl
set_option maxRecDepth 20000 in
theorem kw_257 : (Cond.classLink RX2 52 "java/lang/IllegalStateException") ∈ gw := gw_mem 257 (by decide +kernel) rfl
set_option maxRecDepth 20000 in
theorem kw_258 : (Cond.instantiable "java/lang/IllegalStateException" 6) ∈ gw := gw_mem 258 (by decide +kernel) rfl
set_option maxRecDepth 20000 in
theorem kw_260 : (Cond.selects "java/lang/IllegalStateException" ⟨"java/lang/Throwable", "fillInStackTrace", "(I)Ljava/lang/Throwable;"⟩ ⟨"java/lang/Throwable", "fillInStackTrace", "(I)Ljava/lang/Throwable;"⟩) ∈ gw := gw_mem 260 (by decide +kernel) rfl
set_option maxRecDepth 20000 in
theorem kw_261 : (Cond.lays "java/lang/IllegalStateException" "java/lang/Throwable" "cause" "Ljava/lang/Throwable;") ∈ gw := gw_mem 261 (by decide +kernel) rfl
set_option maxRecDepth 20000 in
theorem kw_262 : (Cond.lays "java/lang/IllegalStateException" "java/lang/Throwable" "stackTrace" "[Ljava/lang/StackTraceElement;") ∈ gw := gw_mem 262 (by decide +kernel) rfl
set_option maxRecDepth 20000 in
theorem kw_263 : (Cond.lays "java/lang/IllegalStateException" "java/lang/Throwable" "suppressedExceptions" "Ljava/util/List;") ∈ gw := gw_mem 263 (by decide +kernel) rfl
set_option maxRecDepth 20000 in
theorem kw_264 : (Cond.lays "java/lang/IllegalStateException" "java/lang/Throwable" "detailMessage" "Ljava/lang/String;") ∈ gw := gw_mem 264 (by decide +kernel) rfl
set_option maxRecDepth 20000 in
theorem kw_265 : (Cond.lays "java/lang/IllegalStateException" "java/lang/Throwable" "backtrace" "Ljava/lang/Object;") ∈ gw := gw_mem 265 (by decide +kernel) rfl
set_option maxRecDepth 20000 in
theorem kw_267 : (Cond.methodLink RX2 56 ⟨"java/lang/IllegalStateException", "<init>", "(Ljava/lang/String;)V"⟩) ∈ gw := gw_mem 267 (by decide +kernel) rfl
set_option maxRecDepth 20000 in
theorem kw_268 : (Cond.instanceMethod ⟨"java/lang/IllegalStateException", "<init>", "(Ljava/lang/String;)V"⟩) ∈ gw := gw_mem 268 (by decide +kernel) rfl
set_option maxRecDepth 20000 in
theorem kw_269 : (Cond.code ⟨"java/lang/IllegalStateException", "<init>", "(Ljava/lang/String;)V"⟩ prog_8_method_2_code 2 none) ∈ gw := gw_mem 269 (by decide +kernel) rfl
set_option maxRecDepth 20000 in
theorem kw_270 : (Cond.methodLink "java/lang/IllegalStateException" 7 ⟨"java/lang/RuntimeException", "<init>", "(Ljava/lang/String;)V"⟩) ∈ gw := gw_mem 270 (by decide +kernel) rfl
set_option maxRecDepth 20000 in
theorem kw_271 : (Cond.lays "java/lang/IllegalStateException" "java/lang/Throwable" "depth" "I") ∈ gw := gw_mem 271 (by decide +kernel) rfl
set_option maxRecDepth 20000 in
theorem kw_272 : (Cond.superclass "java/lang/IllegalStateException" "java/lang/RuntimeException") ∈ gw := gw_mem 272 (by decide +kernel) rfl
set_option maxRecDepth 20000 in
theorem kw_273 : (Cond.methodLink RL 81 yL_carry) ∈ gw := gw_mem 273 (by decide +kernel) rfl
set_option maxRecDepth 20000 in
theorem kw_274 : (Cond.static yL_carry) ∈ gw := gw_mem 274 (by decide +kernel) rfl
set_option maxRecDepth 20000 in
theorem kw_275 : (Cond.codeWith yL_carry cL_carry 5 (some FieldType.int) [(0, 17, 20, 13), (0, 17, 24, 24)]) ∈ gw := gw_mem 275 (by decide +kernel) rfl
set_option maxRecDepth 20000 in
theorem kw_276 : (Cond.methodLink RL 26 yX2_carry) ∈ gw := gw_mem 276 (by decide +kernel) rfl
set_option maxRecDepth 20000 in
theorem kw_277 : (Cond.instanceMethod yX2_carry) ∈ gw := gw_mem 277 (by decide +kernel) rfl
set_option maxRecDepth 20000 in
theorem kw_278 : (Cond.selects RX2 yX2_carry yX2_carry) ∈ gw := gw_mem 278 (by decide +kernel) rfl
set_option maxRecDepth 20000 in
theorem kw_279 : (Cond.code yX2_carry cX2_carry 4 (some FieldType.boolean)) ∈ gw := gw_mem 279 (by decide +kernel) rfl
set_option maxRecDepth 20000 in
theorem kw_280 : (Cond.methodLink RX2 62 yX2_labelOf) ∈ gw := gw_mem 280 (by decide +kernel) rfl
set_option maxRecDepth 20000 in
theorem kw_282 : (Cond.instanceMethod yX2_labelOf) ∈ gw := gw_mem 282 (by decide +kernel) rfl
set_option maxRecDepth 20000 in
theorem kw_283 : (Cond.code yX2_labelOf cX2_labelOf 2 (some (FieldType.object "GlassLabels$Label"))) ∈ gw := gw_mem 283 (by decide +kernel) rfl
set_option maxRecDepth 20000 in
theorem kw_286 : (Cond.methodLink RL 84 yL_charge) ∈ gw := gw_mem 286 (by decide +kernel) rfl
set_option maxRecDepth 20000 in
theorem kw_287 : (Cond.static yL_charge) ∈ gw := gw_mem 287 (by decide +kernel) rfl
set_option maxRecDepth 20000 in
theorem kw_288 : (Cond.codeWith yL_charge cL_charge 4 (some FieldType.int) [(0, 9, 12, 13)]) ∈ gw := gw_mem 288 (by decide +kernel) rfl
set_option maxRecDepth 20000 in
theorem kw_289 : (Cond.methodLink RL 30 yX2_charge) ∈ gw := gw_mem 289 (by decide +kernel) rfl
set_option maxRecDepth 20000 in
theorem kw_290 : (Cond.instanceMethod yX2_charge) ∈ gw := gw_mem 290 (by decide +kernel) rfl
set_option maxRecDepth 20000 in
theorem kw_291 : (Cond.selects RX2 yX2_charge yX2_charge) ∈ gw := gw_mem 291 (by decide +kernel) rfl
set_option maxRecDepth 20000 in
theorem kw_292 : (Cond.code yX2_charge cX2_charge 4 (some FieldType.int)) ∈ gw := gw_mem 292 (by decide +kernel) rfl
set_option maxRecDepth 20000 in
theorem kw_293 : (Cond.methodLink RL 87 yL_loseSendings) ∈ gw := gw_mem 293 (by decide +kernel) rfl
set_option maxRecDepth 20000 in
theorem kw_294 : (Cond.static yL_loseSendings) ∈ gw := gw_mem 294 (by decide +kernel) rfl
set_option maxRecDepth 20000 in
theorem kw_295 : (Cond.codeWith yL_loseSendings cL_loseSendings 5 (some FieldType.int) [(0, 10, 13, 13), (0, 10, 17, 15)]) ∈ gw := gw_mem 295 (by decide +kernel) rfl
set_option maxRecDepth 20000 in
theorem kw_296 : (Cond.methodLink RL 33 yX2_loseSendings) ∈ gw := gw_mem 296 (by decide +kernel) rfl
set_option maxRecDepth 20000 in
theorem kw_297 : (Cond.instanceMethod yX2_loseSendings) ∈ gw := gw_mem 297 (by decide +kernel) rfl
set_option maxRecDepth 20000 in
theorem kw_298 : (Cond.selects RX2 yX2_loseSendings yX2_loseSendings) ∈ gw := gw_mem 298 (by decide +kernel) rfl
set_option maxRecDepth 20000 in
theorem kw_299 : (Cond.code yX2_loseSendings cX2_loseSendings 5 (some FieldType.int)) ∈ gw := gw_mem 299 (by decide +kernel) rfl
set_option maxRecDepth 20000 in
theorem kw_300 : (Cond.methodLink RL 90 yL_loseAnswers) ∈ gw := gw_mem 300 (by decide +kernel) rfl
set_option maxRecDepth 20000 in
theorem kw_301 : (Cond.static yL_loseAnswers) ∈ gw := gw_mem 301 (by decide +kernel) rfl
set_option maxRecDepth 20000 in
theorem kw_302 : (Cond.codeWith yL_loseAnswers cL_loseAnswers 5 (some FieldType.int) [(0, 10, 13, 13), (0, 10, 17, 15)]) ∈ gw := gw_mem 302 (by decide +kernel) rfl
set_option maxRecDepth 20000 in
theorem kw_303 : (Cond.methodLink RL 36 yX2_loseAnswers) ∈ gw := gw_mem 303 (by decide +kernel) rfl
set_option maxRecDepth 20000 in
theorem kw_304 : (Cond.instanceMethod yX2_loseAnswers) ∈ gw := gw_mem 304 (by decide +kernel) rfl
set_option maxRecDepth 20000 in
theorem kw_305 : (Cond.selects RX2 yX2_loseAnswers yX2_loseAnswers) ∈ gw := gw_mem 305 (by decide +kernel) rfl
set_option maxRecDepth 20000 in
theorem kw_306 : (Cond.code yX2_loseAnswers cX2_loseAnswers 5 (some FieldType.int)) ∈ gw := gw_mem 306 (by decide +kernel) rfl
set_option maxRecDepth 20000 in
theorem kw_307 : (Cond.methodLink RL 93 yL_pass) ∈ gw := gw_mem 307 (by decide +kernel) rfl
set_option maxRecDepth 20000 in
theorem kw_308 : (Cond.static yL_pass) ∈ gw := gw_mem 308 (by decide +kernel) rfl
set_option maxRecDepth 20000 in
theorem kw_309 : (Cond.codeWith yL_pass cL_pass 4 (some FieldType.int) [(0, 9, 12, 15), (0, 9, 15, 24)]) ∈ gw := gw_mem 309 (by decide +kernel) rfl
set_option maxRecDepth 20000 in
theorem kw_310 : (Cond.methodLink RL 39 yX2_pass) ∈ gw := gw_mem 310 (by decide +kernel) rfl
set_option maxRecDepth 20000 in
theorem kw_311 : (Cond.instanceMethod yX2_pass) ∈ gw := gw_mem 311 (by decide +kernel) rfl
set_option maxRecDepth 20000 in
theorem kw_312 : (Cond.selects RX2 yX2_pass yX2_pass) ∈ gw := gw_mem 312 (by decide +kernel) rfl
set_option maxRecDepth 20000 in
theorem kw_313 : (Cond.code yX2_pass cX2_pass 4 (some FieldType.int)) ∈ gw := gw_mem 313 (by decide +kernel) rfl
set_option maxRecDepth 20000 in
theorem kw_315 : (Cond.methodLink RX2 82 yX2_passOneMinute) ∈ gw := gw_mem 315 (by decide +kernel) rfl
set_option maxRecDepth 20000 in
theorem kw_317 : (Cond.instanceMethod yX2_passOneMinute) ∈ gw := gw_mem 317 (by decide +kernel) rfl
set_option maxRecDepth 20000 in
theorem kw_318 : (Cond.code yX2_passOneMinute cX2_passOneMinute 4 (some FieldType.int)) ∈ gw := gw_mem 318 (by decide +kernel) rfl
set_option maxRecDepth 20000 in
theorem kw_319 : (Cond.methodLink RX2 128 yX2_nextToSend) ∈ gw := gw_mem 319 (by decide +kernel) rfl
set_option maxRecDepth 20000 in
theorem kw_320 : (Cond.methodLink RX2 131 yX0_getSending) ∈ gw := gw_mem 320 (by decide +kernel) rfl
set_option maxRecDepth 20000 in
theorem kw_321 : (Cond.instanceMethod yX0_getSending) ∈ gw := gw_mem 321 (by decide +kernel) rfl
set_option maxRecDepth 20000 in
theorem kw_322 : (Cond.selects RX0 yX0_getSending yX0_getSending) ∈ gw := gw_mem 322 (by decide +kernel) rfl
set_option maxRecDepth 20000 in
theorem kw_323 : (Cond.code yX0_getSending cX0_getSending 3 none) ∈ gw := gw_mem 323 (by decide +kernel) rfl
set_option maxRecDepth 20000 in
theorem kw_324 : (Cond.methodLink RX0 36 yX0_redraw) ∈ gw := gw_mem 324 (by decide +kernel) rfl
set_option maxRecDepth 20000 in
theorem kw_326 : (Cond.instanceMethod yX0_redraw) ∈ gw := gw_mem 326 (by decide +kernel) rfl
set_option maxRecDepth 20000 in
theorem kw_327 : (Cond.code yX0_redraw cX0_redraw 3 none) ∈ gw := gw_mem 327 (by decide +kernel) rfl
set_option maxRecDepth 20000 in
theorem kw_328 : (Cond.methodLink RX0 43 yX0_changedDigits) ∈ gw := gw_mem 328 (by decide +kernel) rfl
set_option maxRecDepth 20000 in
theorem kw_329 : (Cond.static yX0_changedDigits) ∈ gw := gw_mem 329 (by decide +kernel) rfl
set_option maxRecDepth 20000 in
theorem kw_330 : (Cond.code yX0_changedDigits cX0_changedDigits 5 (some FieldType.int)) ∈ gw := gw_mem 330 (by decide +kernel) rfl
set_option maxRecDepth 20000 in
theorem kw_331 : (Cond.methodLink RX0 40 yX0_answer) ∈ gw := gw_mem 331 (by decide +kernel) rfl
set_option maxRecDepth 20000 in
theorem kw_333 : (Cond.instanceMethod yX0_answer) ∈ gw := gw_mem 333 (by decide +kernel) rfl
set_option maxRecDepth 20000 in
theorem kw_334 : (Cond.code yX0_answer cX0_answer 1 none) ∈ gw := gw_mem 334 (by decide +kernel) rfl
set_option maxRecDepth 20000 in
theorem kw_335 : (Cond.methodLink RX2 135 yX2_endMinute) ∈ gw := gw_mem 335 (by decide +kernel) rfl
set_option maxRecDepth 20000 in
theorem kw_337 : (Cond.instanceMethod yX2_endMinute) ∈ gw := gw_mem 337 (by decide +kernel) rfl
set_option maxRecDepth 20000 in
theorem kw_338 : (Cond.code yX2_endMinute cX2_endMinute 2 none) ∈ gw := gw_mem 338 (by decide +kernel) rfl
set_option maxRecDepth 20000 in
theorem kw_339 : (Cond.methodLink RX2 138 yX1_openMinute) ∈ gw := gw_mem 339 (by decide +kernel) rfl
set_option maxRecDepth 20000 in
theorem kw_340 : (Cond.instanceMethod yX1_openMinute) ∈ gw := gw_mem 340 (by decide +kernel) rfl
set_option maxRecDepth 20000 in
theorem kw_341 : (Cond.selects RX1 yX1_openMinute yX1_openMinute) ∈ gw := gw_mem 341 (by decide +kernel) rfl
set_option maxRecDepth 20000 in
theorem kw_342 : (Cond.code yX1_openMinute cX1_openMinute 2 none) ∈ gw := gw_mem 342 (by decide +kernel) rfl
set_option maxRecDepth 20000 in
theorem kw_343 : (Cond.methodLink RX2 141 yX0_listen) ∈ gw := gw_mem 343 (by decide +kernel) rfl
set_option maxRecDepth 20000 in
theorem kw_344 : (Cond.instanceMethod yX0_listen) ∈ gw := gw_mem 344 (by decide +kernel) rfl
set_option maxRecDepth 20000 in
theorem kw_345 : (Cond.selects RX0 yX0_listen yX0_listen) ∈ gw := gw_mem 345 (by decide +kernel) rfl
set_option maxRecDepth 20000 in
theorem kw_346 : (Cond.code yX0_listen cX0_listen 1 none) ∈ gw := gw_mem 346 (by decide +kernel) rfl
set_option maxRecDepth 20000 in
theorem kw_347 : (Cond.methodLink RX2 144 yX1_note) ∈ gw := gw_mem 347 (by decide +kernel) rfl
set_option maxRecDepth 20000 in
theorem kw_348 : (Cond.instanceMethod yX1_note) ∈ gw := gw_mem 348 (by decide +kernel) rfl
set_option maxRecDepth 20000 in
theorem kw_349 : (Cond.selects RX1 yX1_note yX1_note) ∈ gw := gw_mem 349 (by decide +kernel) rfl
set_option maxRecDepth 20000 in
theorem kw_350 : (Cond.code yX1_note cX1_note 5 none) ∈ gw := gw_mem 350 (by decide +kernel) rfl
set_option maxRecDepth 20000 in
theorem kw_351 : (Cond.methodLink RX1 26 Lib.Math.min.name) ∈ gw := gw_mem 351 (by decide +kernel) rfl
set_option maxRecDepth 20000 in
theorem kw_352 : (Cond.static Lib.Math.min.name) ∈ gw := gw_mem 352 (by decide +kernel) rfl
set_option maxRecDepth 20000 in
theorem kw_353 : (Cond.code Lib.Math.min.name Lib.Math.min.code 2 (some .int)) ∈ gw := gw_mem 353 (by decide +kernel) rfl
set_option maxRecDepth 20000 in
theorem kw_354 : (Cond.methodLink RL 100 yL_order) ∈ gw := gw_mem 354 (by decide +kernel) rfl
set_option maxRecDepth 20000 in
theorem kw_355 : (Cond.static yL_order) ∈ gw := gw_mem 355 (by decide +kernel) rfl
set_option maxRecDepth 20000 in
theorem kw_356 : (Cond.codeWith yL_order cL_order 4 (some FieldType.int) [(0, 9, 12, 13)]) ∈ gw := gw_mem 356 (by decide +kernel) rfl
set_option maxRecDepth 20000 in
theorem kw_357 : (Cond.methodLink RL 42 yX2_order) ∈ gw := gw_mem 357 (by decide +kernel) rfl
set_option maxRecDepth 20000 in
theorem kw_358 : (Cond.instanceMethod yX2_order) ∈ gw := gw_mem 358 (by decide +kernel) rfl
set_option maxRecDepth 20000 in
theorem kw_359 : (Cond.selects RX2 yX2_order yX2_order) ∈ gw := gw_mem 359 (by decide +kernel) rfl
set_option maxRecDepth 20000 in
theorem kw_360 : (Cond.code yX2_order cX2_order 2 (some FieldType.int)) ∈ gw := gw_mem 360 (by decide +kernel) rfl
set_option maxRecDepth 20000 in
theorem kw_361 : (Cond.methodLink RL 111 yL_shown) ∈ gw := gw_mem 361 (by decide +kernel) rfl
set_option maxRecDepth 20000 in
theorem kw_362 : (Cond.static yL_shown) ∈ gw := gw_mem 362 (by decide +kernel) rfl
set_option maxRecDepth 20000 in
theorem kw_363 : (Cond.codeWith yL_shown cL_shown 4 (some FieldType.int) [(0, 9, 12, 13)]) ∈ gw := gw_mem 363 (by decide +kernel) rfl
set_option maxRecDepth 20000 in
theorem kw_364 : (Cond.methodLink RL 45 yX2_shown) ∈ gw := gw_mem 364 (by decide +kernel) rfl
set_option maxRecDepth 20000 in
theorem kw_365 : (Cond.instanceMethod yX2_shown) ∈ gw := gw_mem 365 (by decide +kernel) rfl
set_option maxRecDepth 20000 in
theorem kw_366 : (Cond.selects RX2 yX2_shown yX2_shown) ∈ gw := gw_mem 366 (by decide +kernel) rfl
set_option maxRecDepth 20000 in
theorem kw_367 : (Cond.code yX2_shown cX2_shown 2 (some FieldType.int)) ∈ gw := gw_mem 367 (by decide +kernel) rfl
set_option maxRecDepth 20000 in
theorem kw_368 : (Cond.methodLink RL 114 yL_ghosts) ∈ gw := gw_mem 368 (by decide +kernel) rfl
set_option maxRecDepth 20000 in
theorem kw_369 : (Cond.static yL_ghosts) ∈ gw := gw_mem 369 (by decide +kernel) rfl
set_option maxRecDepth 20000 in
theorem kw_370 : (Cond.codeWith yL_ghosts cL_ghosts 4 (some FieldType.int) [(0, 9, 12, 13)]) ∈ gw := gw_mem 370 (by decide +kernel) rfl
set_option maxRecDepth 20000 in
theorem kw_371 : (Cond.methodLink RL 48 yX2_ghosts) ∈ gw := gw_mem 371 (by decide +kernel) rfl
set_option maxRecDepth 20000 in
theorem kw_372 : (Cond.instanceMethod yX2_ghosts) ∈ gw := gw_mem 372 (by decide +kernel) rfl
set_option maxRecDepth 20000 in
theorem kw_373 : (Cond.selects RX2 yX2_ghosts yX2_ghosts) ∈ gw := gw_mem 373 (by decide +kernel) rfl
set_option maxRecDepth 20000 in
theorem kw_374 : (Cond.code yX2_ghosts cX2_ghosts 2 (some FieldType.int)) ∈ gw := gw_mem 374 (by decide +kernel) rfl
set_option maxRecDepth 20000 in
theorem kw_375 : (Cond.methodLink RL 117 yL_battery) ∈ gw := gw_mem 375 (by decide +kernel) rfl
set_option maxRecDepth 20000 in
theorem kw_376 : (Cond.static yL_battery) ∈ gw := gw_mem 376 (by decide +kernel) rfl
set_option maxRecDepth 20000 in
theorem kw_377 : (Cond.codeWith yL_battery cL_battery 4 (some FieldType.int) [(0, 9, 12, 13)]) ∈ gw := gw_mem 377 (by decide +kernel) rfl
set_option maxRecDepth 20000 in
theorem kw_378 : (Cond.methodLink RL 51 yX2_battery) ∈ gw := gw_mem 378 (by decide +kernel) rfl
set_option maxRecDepth 20000 in
theorem kw_379 : (Cond.instanceMethod yX2_battery) ∈ gw := gw_mem 379 (by decide +kernel) rfl
set_option maxRecDepth 20000 in
theorem kw_380 : (Cond.selects RX2 yX2_battery yX2_battery) ∈ gw := gw_mem 380 (by decide +kernel) rfl
set_option maxRecDepth 20000 in
theorem kw_381 : (Cond.code yX2_battery cX2_battery 2 (some FieldType.int)) ∈ gw := gw_mem 381 (by decide +kernel) rfl
set_option maxRecDepth 20000 in
theorem kw_382 : (Cond.methodLink RL 124 yL_asked) ∈ gw := gw_mem 382 (by decide +kernel) rfl
set_option maxRecDepth 20000 in
theorem kw_383 : (Cond.static yL_asked) ∈ gw := gw_mem 383 (by decide +kernel) rfl
set_option maxRecDepth 20000 in
theorem kw_384 : (Cond.codeWith yL_asked cL_asked 4 (some FieldType.int) [(0, 9, 12, 13)]) ∈ gw := gw_mem 384 (by decide +kernel) rfl
set_option maxRecDepth 20000 in
theorem kw_385 : (Cond.methodLink RL 54 yX2_asked) ∈ gw := gw_mem 385 (by decide +kernel) rfl
set_option maxRecDepth 20000 in
theorem kw_386 : (Cond.instanceMethod yX2_asked) ∈ gw := gw_mem 386 (by decide +kernel) rfl
set_option maxRecDepth 20000 in
theorem kw_387 : (Cond.selects RX2 yX2_asked yX2_asked) ∈ gw := gw_mem 387 (by decide +kernel) rfl
set_option maxRecDepth 20000 in
theorem kw_388 : (Cond.code yX2_asked cX2_asked 3 (some FieldType.int)) ∈ gw := gw_mem 388 (by decide +kernel) rfl
set_option maxRecDepth 20000 in
theorem kw_389 : (Cond.methodLink RX2 97 yX2_leastShownNow) ∈ gw := gw_mem 389 (by decide +kernel) rfl
set_option maxRecDepth 20000 in
theorem kw_391 : (Cond.instanceMethod yX2_leastShownNow) ∈ gw := gw_mem 391 (by decide +kernel) rfl
set_option maxRecDepth 20000 in
theorem kw_392 : (Cond.code yX2_leastShownNow cX2_leastShownNow 4 (some FieldType.int)) ∈ gw := gw_mem 392 (by decide +kernel) rfl
set_option maxRecDepth 20000 in
theorem kw_393 : (Cond.methodLink RX2 104 Lib.Math.min.name) ∈ gw := gw_mem 393 (by decide +kernel) rfl
set_option maxRecDepth 20000 in
theorem kw_394 : (Cond.methodLink RX2 101 yX1_leastOfLastHour) ∈ gw := gw_mem 394 (by decide +kernel) rfl
set_option maxRecDepth 20000 in
theorem kw_395 : (Cond.instanceMethod yX1_leastOfLastHour) ∈ gw := gw_mem 395 (by decide +kernel) rfl
set_option maxRecDepth 20000 in
theorem kw_396 : (Cond.selects RX1 yX1_leastOfLastHour yX1_leastOfLastHour) ∈ gw := gw_mem 396 (by decide +kernel) rfl
set_option maxRecDepth 20000 in
theorem kw_397 : (Cond.code yX1_leastOfLastHour cX1_leastOfLastHour 4 (some FieldType.int)) ∈ gw := gw_mem 397 (by decide +kernel) rfl
set_option maxRecDepth 20000 in
theorem kw_398 : (Cond.methodLink RL 127 yL_leastEver) ∈ gw := gw_mem 398 (by decide +kernel) rfl
set_option maxRecDepth 20000 in
theorem kw_399 : (Cond.static yL_leastEver) ∈ gw := gw_mem 399 (by decide +kernel) rfl
set_option maxRecDepth 20000 in
theorem kw_400 : (Cond.codeWith yL_leastEver cL_leastEver 4 (some FieldType.int) [(0, 9, 12, 13)]) ∈ gw := gw_mem 400 (by decide +kernel) rfl
set_option maxRecDepth 20000 in
theorem kw_401 : (Cond.methodLink RL 57 yX2_leastEver) ∈ gw := gw_mem 401 (by decide +kernel) rfl
set_option maxRecDepth 20000 in
theorem kw_402 : (Cond.instanceMethod yX2_leastEver) ∈ gw := gw_mem 402 (by decide +kernel) rfl
set_option maxRecDepth 20000 in
theorem kw_403 : (Cond.selects RX2 yX2_leastEver yX2_leastEver) ∈ gw := gw_mem 403 (by decide +kernel) rfl
set_option maxRecDepth 20000 in
theorem kw_404 : (Cond.code yX2_leastEver cX2_leastEver 3 (some FieldType.int)) ∈ gw := gw_mem 404 (by decide +kernel) rfl
set_option maxRecDepth 20000 in
theorem kw_405 : (Cond.methodLink RX2 110 yX1_leastOfAllTime) ∈ gw := gw_mem 405 (by decide +kernel) rfl
set_option maxRecDepth 20000 in
theorem kw_406 : (Cond.instanceMethod yX1_leastOfAllTime) ∈ gw := gw_mem 406 (by decide +kernel) rfl
set_option maxRecDepth 20000 in
theorem kw_407 : (Cond.selects RX1 yX1_leastOfAllTime yX1_leastOfAllTime) ∈ gw := gw_mem 407 (by decide +kernel) rfl
set_option maxRecDepth 20000 in
theorem kw_408 : (Cond.code yX1_leastOfAllTime cX1_leastOfAllTime 2 (some FieldType.int)) ∈ gw := gw_mem 408 (by decide +kernel) rfl
set_option maxRecDepth 20000 in
theorem kw_409 : (Cond.classLink RL 61 RX3) ∈ gw := gw_mem 409 (by decide +kernel) rfl
set_option maxRecDepth 20000 in
theorem kw_410 : (Cond.instantiable RX3 15) ∈ gw := gw_mem 410 (by decide +kernel) rfl
set_option maxRecDepth 20000 in
theorem kw_411 : (Cond.methodLink RL 63 yX3_init) ∈ gw := gw_mem 411 (by decide +kernel) rfl
set_option maxRecDepth 20000 in
theorem kw_412 : (Cond.instanceMethod yX3_init) ∈ gw := gw_mem 412 (by decide +kernel) rfl
set_option maxRecDepth 20000 in
theorem kw_413 : (Cond.code yX3_init cX3_init 2 none) ∈ gw := gw_mem 413 (by decide +kernel) rfl
set_option maxRecDepth 20000 in
theorem kw_414 : (Cond.methodLink RX3 1 objectInit) ∈ gw := gw_mem 414 (by decide +kernel) rfl
set_option maxRecDepth 20000 in
theorem kw_415 : (Cond.fieldLink RX3 43 "GlassLabelsModel" "thrown" "I") ∈ gw := gw_mem 415 (by decide +kernel) rfl
set_option maxRecDepth 20000 in
theorem kw_416 : (Cond.fieldLink RX3 57 "GlassLabelsModel" "time" "I") ∈ gw := gw_mem 416 (by decide +kernel) rfl
set_option maxRecDepth 20000 in
theorem kw_417 : (Cond.fieldLink RX3 54 "GlassLabelsModel" "made" "I") ∈ gw := gw_mem 417 (by decide +kernel) rfl
set_option maxRecDepth 20000 in
theorem kw_418 : (Cond.fieldLink RX3 7 "GlassLabelsModel" "prices" "[I") ∈ gw := gw_mem 418 (by decide +kernel) rfl
set_option maxRecDepth 20000 in
theorem kw_419 : (Cond.fieldLink RX3 51 "GlassLabelsModel" "labels" "I") ∈ gw := gw_mem 419 (by decide +kernel) rfl
set_option maxRecDepth 20000 in
theorem kw_420 : (Cond.fieldLink RX3 13 "GlassLabelsModel" "wares" "[I") ∈ gw := gw_mem 420 (by decide +kernel) rfl
set_option maxRecDepth 20000 in
theorem kw_421 : (Cond.fieldLink RX3 16 "GlassLabelsModel" "shown" "[I") ∈ gw := gw_mem 421 (by decide +kernel) rfl
set_option maxRecDepth 20000 in
theorem kw_422 : (Cond.fieldLink RX3 19 "GlassLabelsModel" "ghosts" "[I") ∈ gw := gw_mem 422 (by decide +kernel) rfl
set_option maxRecDepth 20000 in
theorem kw_423 : (Cond.fieldLink RX3 22 "GlassLabelsModel" "batteries" "[I") ∈ gw := gw_mem 423 (by decide +kernel) rfl
set_option maxRecDepth 20000 in
theorem kw_424 : (Cond.fieldLink RX3 25 "GlassLabelsModel" "lostSendings" "[I") ∈ gw := gw_mem 424 (by decide +kernel) rfl
set_option maxRecDepth 20000 in
theorem kw_425 : (Cond.fieldLink RX3 28 "GlassLabelsModel" "lostAnswers" "[I") ∈ gw := gw_mem 425 (by decide +kernel) rfl
set_option maxRecDepth 20000 in
theorem kw_426 : (Cond.fieldLink RX3 31 "GlassLabelsModel" "orders" "[I") ∈ gw := gw_mem 426 (by decide +kernel) rfl
set_option maxRecDepth 20000 in
theorem kw_427 : (Cond.fieldLink RX3 34 "GlassLabelsModel" "dues" "[I") ∈ gw := gw_mem 427 (by decide +kernel) rfl
set_option maxRecDepth 20000 in
theorem kw_428 : (Cond.fieldLink RX3 37 "GlassLabelsModel" "least" "[I") ∈ gw := gw_mem 428 (by decide +kernel) rfl
set_option maxRecDepth 20000 in
theorem kw_429 : (Cond.fieldLink RX3 40 "GlassLabelsModel" "ever" "[I") ∈ gw := gw_mem 429 (by decide +kernel) rfl
set_option maxRecDepth 20000 in
theorem kw_430 : (Cond.lays "GlassLabelsModel" "GlassLabelsModel" "thrown" "I") ∈ gw := gw_mem 430 (by decide +kernel) rfl
set_option maxRecDepth 20000 in
theorem kw_431 : (Cond.soleField "GlassLabelsModel" "thrown") ∈ gw := gw_mem 431 (by decide +kernel) rfl
set_option maxRecDepth 20000 in
theorem kw_432 : (Cond.lays "GlassLabelsModel" "GlassLabelsModel" "time" "I") ∈ gw := gw_mem 432 (by decide +kernel) rfl
set_option maxRecDepth 20000 in
theorem kw_433 : (Cond.soleField "GlassLabelsModel" "time") ∈ gw := gw_mem 433 (by decide +kernel) rfl
set_option maxRecDepth 20000 in
theorem kw_434 : (Cond.lays "GlassLabelsModel" "GlassLabelsModel" "made" "I") ∈ gw := gw_mem 434 (by decide +kernel) rfl
set_option maxRecDepth 20000 in
theorem kw_435 : (Cond.soleField "GlassLabelsModel" "made") ∈ gw := gw_mem 435 (by decide +kernel) rfl
set_option maxRecDepth 20000 in
theorem kw_436 : (Cond.laysFinal "GlassLabelsModel" "GlassLabelsModel" "prices" "[I") ∈ gw := gw_mem 436 (by decide +kernel) rfl
set_option maxRecDepth 20000 in
theorem kw_437 : (Cond.soleField "GlassLabelsModel" "prices") ∈ gw := gw_mem 437 (by decide +kernel) rfl
set_option maxRecDepth 20000 in
theorem kw_438 : (Cond.lays "GlassLabelsModel" "GlassLabelsModel" "labels" "I") ∈ gw := gw_mem 438 (by decide +kernel) rfl
set_option maxRecDepth 20000 in
theorem kw_439 : (Cond.soleField "GlassLabelsModel" "labels") ∈ gw := gw_mem 439 (by decide +kernel) rfl
set_option maxRecDepth 20000 in
theorem kw_440 : (Cond.laysFinal "GlassLabelsModel" "GlassLabelsModel" "wares" "[I") ∈ gw := gw_mem 440 (by decide +kernel) rfl
set_option maxRecDepth 20000 in
theorem kw_441 : (Cond.soleField "GlassLabelsModel" "wares") ∈ gw := gw_mem 441 (by decide +kernel) rfl
set_option maxRecDepth 20000 in
theorem kw_442 : (Cond.laysFinal "GlassLabelsModel" "GlassLabelsModel" "shown" "[I") ∈ gw := gw_mem 442 (by decide +kernel) rfl
set_option maxRecDepth 20000 in
theorem kw_443 : (Cond.soleField "GlassLabelsModel" "shown") ∈ gw := gw_mem 443 (by decide +kernel) rfl
set_option maxRecDepth 20000 in
theorem kw_444 : (Cond.laysFinal "GlassLabelsModel" "GlassLabelsModel" "ghosts" "[I") ∈ gw := gw_mem 444 (by decide +kernel) rfl
set_option maxRecDepth 20000 in
theorem kw_445 : (Cond.soleField "GlassLabelsModel" "ghosts") ∈ gw := gw_mem 445 (by decide +kernel) rfl
set_option maxRecDepth 20000 in
theorem kw_446 : (Cond.laysFinal "GlassLabelsModel" "GlassLabelsModel" "batteries" "[I") ∈ gw := gw_mem 446 (by decide +kernel) rfl
set_option maxRecDepth 20000 in
theorem kw_447 : (Cond.soleField "GlassLabelsModel" "batteries") ∈ gw := gw_mem 447 (by decide +kernel) rfl
set_option maxRecDepth 20000 in
theorem kw_448 : (Cond.laysFinal "GlassLabelsModel" "GlassLabelsModel" "lostSendings" "[I") ∈ gw := gw_mem 448 (by decide +kernel) rfl
set_option maxRecDepth 20000 in
theorem kw_449 : (Cond.soleField "GlassLabelsModel" "lostSendings") ∈ gw := gw_mem 449 (by decide +kernel) rfl
set_option maxRecDepth 20000 in
theorem kw_450 : (Cond.laysFinal "GlassLabelsModel" "GlassLabelsModel" "lostAnswers" "[I") ∈ gw := gw_mem 450 (by decide +kernel) rfl
set_option maxRecDepth 20000 in
theorem kw_451 : (Cond.soleField "GlassLabelsModel" "lostAnswers") ∈ gw := gw_mem 451 (by decide +kernel) rfl
set_option maxRecDepth 20000 in
theorem kw_452 : (Cond.laysFinal "GlassLabelsModel" "GlassLabelsModel" "orders" "[I") ∈ gw := gw_mem 452 (by decide +kernel) rfl
set_option maxRecDepth 20000 in
theorem kw_453 : (Cond.soleField "GlassLabelsModel" "orders") ∈ gw := gw_mem 453 (by decide +kernel) rfl
set_option maxRecDepth 20000 in
theorem kw_454 : (Cond.laysFinal "GlassLabelsModel" "GlassLabelsModel" "dues" "[I") ∈ gw := gw_mem 454 (by decide +kernel) rfl
set_option maxRecDepth 20000 in
theorem kw_455 : (Cond.soleField "GlassLabelsModel" "dues") ∈ gw := gw_mem 455 (by decide +kernel) rfl
set_option maxRecDepth 20000 in
theorem kw_456 : (Cond.laysFinal "GlassLabelsModel" "GlassLabelsModel" "least" "[I") ∈ gw := gw_mem 456 (by decide +kernel) rfl
set_option maxRecDepth 20000 in
theorem kw_457 : (Cond.soleField "GlassLabelsModel" "least") ∈ gw := gw_mem 457 (by decide +kernel) rfl
set_option maxRecDepth 20000 in
theorem kw_458 : (Cond.laysFinal "GlassLabelsModel" "GlassLabelsModel" "ever" "[I") ∈ gw := gw_mem 458 (by decide +kernel) rfl
set_option maxRecDepth 20000 in
theorem kw_459 : (Cond.soleField "GlassLabelsModel" "ever") ∈ gw := gw_mem 459 (by decide +kernel) rfl
set_option maxRecDepth 20000 in
theorem kw_460 : (Cond.superclass "GlassLabelsModel" "java/lang/Object") ∈ gw := gw_mem 460 (by decide +kernel) rfl
set_option maxRecDepth 20000 in
theorem kw_461 : (Cond.methodLink RL 70 yX3_thrown) ∈ gw := gw_mem 461 (by decide +kernel) rfl
set_option maxRecDepth 20000 in
theorem kw_462 : (Cond.instanceMethod yX3_thrown) ∈ gw := gw_mem 462 (by decide +kernel) rfl
set_option maxRecDepth 20000 in
theorem kw_463 : (Cond.selects RX3 yX3_thrown yX3_thrown) ∈ gw := gw_mem 463 (by decide +kernel) rfl
set_option maxRecDepth 20000 in
theorem kw_464 : (Cond.code yX3_thrown cX3_thrown 1 (some FieldType.int)) ∈ gw := gw_mem 464 (by decide +kernel) rfl
set_option maxRecDepth 20000 in
theorem kw_465 : (Cond.methodLink RL 69 yX3_setPrice) ∈ gw := gw_mem 465 (by decide +kernel) rfl
set_option maxRecDepth 20000 in
theorem kw_466 : (Cond.instanceMethod yX3_setPrice) ∈ gw := gw_mem 466 (by decide +kernel) rfl
set_option maxRecDepth 20000 in
theorem kw_467 : (Cond.selects RX3 yX3_setPrice yX3_setPrice) ∈ gw := gw_mem 467 (by decide +kernel) rfl
set_option maxRecDepth 20000 in
theorem kw_468 : (Cond.code yX3_setPrice cX3_setPrice 5 (some FieldType.int)) ∈ gw := gw_mem 468 (by decide +kernel) rfl
set_option maxRecDepth 20000 in
theorem kw_469 : (Cond.methodLink RX3 60 yX3_isWare) ∈ gw := gw_mem 469 (by decide +kernel) rfl
set_option maxRecDepth 20000 in
theorem kw_470 : (Cond.static yX3_isWare) ∈ gw := gw_mem 470 (by decide +kernel) rfl
set_option maxRecDepth 20000 in
theorem kw_471 : (Cond.code yX3_isWare cX3_isWare 1 (some FieldType.boolean)) ∈ gw := gw_mem 471 (by decide +kernel) rfl
set_option maxRecDepth 20000 in
theorem kw_472 : (Cond.methodLink RX3 47 yX3_isIn) ∈ gw := gw_mem 472 (by decide +kernel) rfl
set_option maxRecDepth 20000 in
theorem kw_473 : (Cond.static yX3_isIn) ∈ gw := gw_mem 473 (by decide +kernel) rfl
set_option maxRecDepth 20000 in
theorem kw_474 : (Cond.code yX3_isIn cX3_isIn 3 (some FieldType.boolean)) ∈ gw := gw_mem 474 (by decide +kernel) rfl
set_option maxRecDepth 20000 in
theorem kw_475 : (Cond.methodLink RX3 64 yX3_holds) ∈ gw := gw_mem 475 (by decide +kernel) rfl
set_option maxRecDepth 20000 in
theorem kw_477 : (Cond.instanceMethod yX3_holds) ∈ gw := gw_mem 477 (by decide +kernel) rfl
set_option maxRecDepth 20000 in
theorem kw_478 : (Cond.code yX3_holds cX3_holds 2 (some FieldType.boolean)) ∈ gw := gw_mem 478 (by decide +kernel) rfl
set_option maxRecDepth 20000 in
theorem kw_479 : (Cond.methodLink RX3 67 yX3_gets) ∈ gw := gw_mem 479 (by decide +kernel) rfl
set_option maxRecDepth 20000 in
theorem kw_481 : (Cond.instanceMethod yX3_gets) ∈ gw := gw_mem 481 (by decide +kernel) rfl
set_option maxRecDepth 20000 in
theorem kw_482 : (Cond.code yX3_gets cX3_gets 2 none) ∈ gw := gw_mem 482 (by decide +kernel) rfl
set_option maxRecDepth 20000 in
theorem kw_483 : (Cond.methodLink RL 77 yX3_price) ∈ gw := gw_mem 483 (by decide +kernel) rfl
set_option maxRecDepth 20000 in
theorem kw_484 : (Cond.instanceMethod yX3_price) ∈ gw := gw_mem 484 (by decide +kernel) rfl
set_option maxRecDepth 20000 in
theorem kw_485 : (Cond.selects RX3 yX3_price yX3_price) ∈ gw := gw_mem 485 (by decide +kernel) rfl
set_option maxRecDepth 20000 in
theorem kw_486 : (Cond.code yX3_price cX3_price 2 (some FieldType.int)) ∈ gw := gw_mem 486 (by decide +kernel) rfl
set_option maxRecDepth 20000 in
theorem kw_487 : (Cond.methodLink RL 80 yX3_hang) ∈ gw := gw_mem 487 (by decide +kernel) rfl
set_option maxRecDepth 20000 in
theorem kw_488 : (Cond.instanceMethod yX3_hang) ∈ gw := gw_mem 488 (by decide +kernel) rfl
set_option maxRecDepth 20000 in
theorem kw_489 : (Cond.selects RX3 yX3_hang yX3_hang) ∈ gw := gw_mem 489 (by decide +kernel) rfl
set_option maxRecDepth 20000 in
theorem kw_490 : (Cond.code yX3_hang cX3_hang 3 (some FieldType.int)) ∈ gw := gw_mem 490 (by decide +kernel) rfl
set_option maxRecDepth 20000 in
theorem kw_491 : (Cond.methodLink RL 83 yX3_carry) ∈ gw := gw_mem 491 (by decide +kernel) rfl
set_option maxRecDepth 20000 in
theorem kw_492 : (Cond.instanceMethod yX3_carry) ∈ gw := gw_mem 492 (by decide +kernel) rfl
set_option maxRecDepth 20000 in
theorem kw_493 : (Cond.selects RX3 yX3_carry yX3_carry) ∈ gw := gw_mem 493 (by decide +kernel) rfl
set_option maxRecDepth 20000 in
theorem kw_494 : (Cond.code yX3_carry cX3_carry 4 (some FieldType.boolean)) ∈ gw := gw_mem 494 (by decide +kernel) rfl
set_option maxRecDepth 20000 in
theorem kw_495 : (Cond.methodLink RX3 71 yX3_isLabel) ∈ gw := gw_mem 495 (by decide +kernel) rfl
set_option maxRecDepth 20000 in
theorem kw_497 : (Cond.instanceMethod yX3_isLabel) ∈ gw := gw_mem 497 (by decide +kernel) rfl
set_option maxRecDepth 20000 in
theorem kw_498 : (Cond.code yX3_isLabel cX3_isLabel 2 (some FieldType.boolean)) ∈ gw := gw_mem 498 (by decide +kernel) rfl
set_option maxRecDepth 20000 in
theorem kw_499 : (Cond.methodLink RL 86 yX3_charge) ∈ gw := gw_mem 499 (by decide +kernel) rfl
set_option maxRecDepth 20000 in
theorem kw_500 : (Cond.instanceMethod yX3_charge) ∈ gw := gw_mem 500 (by decide +kernel) rfl
set_option maxRecDepth 20000 in
theorem kw_501 : (Cond.selects RX3 yX3_charge yX3_charge) ∈ gw := gw_mem 501 (by decide +kernel) rfl
set_option maxRecDepth 20000 in
theorem kw_502 : (Cond.code yX3_charge cX3_charge 3 (some FieldType.int)) ∈ gw := gw_mem 502 (by decide +kernel) rfl
set_option maxRecDepth 20000 in
theorem kw_503 : (Cond.methodLink RL 89 yX3_loseSendings) ∈ gw := gw_mem 503 (by decide +kernel) rfl
set_option maxRecDepth 20000 in
theorem kw_504 : (Cond.instanceMethod yX3_loseSendings) ∈ gw := gw_mem 504 (by decide +kernel) rfl
set_option maxRecDepth 20000 in
theorem kw_505 : (Cond.selects RX3 yX3_loseSendings yX3_loseSendings) ∈ gw := gw_mem 505 (by decide +kernel) rfl
set_option maxRecDepth 20000 in
theorem kw_506 : (Cond.code yX3_loseSendings cX3_loseSendings 4 (some FieldType.int)) ∈ gw := gw_mem 506 (by decide +kernel) rfl
set_option maxRecDepth 20000 in
theorem kw_507 : (Cond.methodLink RL 92 yX3_loseAnswers) ∈ gw := gw_mem 507 (by decide +kernel) rfl
set_option maxRecDepth 20000 in
theorem kw_508 : (Cond.instanceMethod yX3_loseAnswers) ∈ gw := gw_mem 508 (by decide +kernel) rfl
set_option maxRecDepth 20000 in
theorem kw_509 : (Cond.selects RX3 yX3_loseAnswers yX3_loseAnswers) ∈ gw := gw_mem 509 (by decide +kernel) rfl
set_option maxRecDepth 20000 in
theorem kw_510 : (Cond.code yX3_loseAnswers cX3_loseAnswers 4 (some FieldType.int)) ∈ gw := gw_mem 510 (by decide +kernel) rfl
set_option maxRecDepth 20000 in
theorem kw_511 : (Cond.methodLink RL 95 yX3_pass) ∈ gw := gw_mem 511 (by decide +kernel) rfl
set_option maxRecDepth 20000 in
theorem kw_512 : (Cond.instanceMethod yX3_pass) ∈ gw := gw_mem 512 (by decide +kernel) rfl
set_option maxRecDepth 20000 in
theorem kw_513 : (Cond.selects RX3 yX3_pass yX3_pass) ∈ gw := gw_mem 513 (by decide +kernel) rfl
set_option maxRecDepth 20000 in
theorem kw_514 : (Cond.code yX3_pass cX3_pass 4 (some FieldType.int)) ∈ gw := gw_mem 514 (by decide +kernel) rfl
set_option maxRecDepth 20000 in
theorem kw_515 : (Cond.methodLink RX3 95 yX3_goes) ∈ gw := gw_mem 515 (by decide +kernel) rfl
set_option maxRecDepth 20000 in
theorem kw_517 : (Cond.instanceMethod yX3_goes) ∈ gw := gw_mem 517 (by decide +kernel) rfl
set_option maxRecDepth 20000 in
theorem kw_518 : (Cond.code yX3_goes cX3_goes 4 (some FieldType.int)) ∈ gw := gw_mem 518 (by decide +kernel) rfl
set_option maxRecDepth 20000 in
theorem kw_519 : (Cond.methodLink RX3 81 yX3_longest) ∈ gw := gw_mem 519 (by decide +kernel) rfl
set_option maxRecDepth 20000 in
theorem kw_521 : (Cond.instanceMethod yX3_longest) ∈ gw := gw_mem 521 (by decide +kernel) rfl
set_option maxRecDepth 20000 in
theorem kw_522 : (Cond.code yX3_longest cX3_longest 5 (some FieldType.int)) ∈ gw := gw_mem 522 (by decide +kernel) rfl
set_option maxRecDepth 20000 in
theorem kw_523 : (Cond.methodLink RX3 85 yX3_sends) ∈ gw := gw_mem 523 (by decide +kernel) rfl
set_option maxRecDepth 20000 in
theorem kw_525 : (Cond.instanceMethod yX3_sends) ∈ gw := gw_mem 525 (by decide +kernel) rfl
set_option maxRecDepth 20000 in
theorem kw_526 : (Cond.code yX3_sends cX3_sends 2 none) ∈ gw := gw_mem 526 (by decide +kernel) rfl
set_option maxRecDepth 20000 in
theorem kw_527 : (Cond.methodLink RX3 78 yX3_redraws) ∈ gw := gw_mem 527 (by decide +kernel) rfl
set_option maxRecDepth 20000 in
theorem kw_529 : (Cond.instanceMethod yX3_redraws) ∈ gw := gw_mem 529 (by decide +kernel) rfl
set_option maxRecDepth 20000 in
theorem kw_530 : (Cond.code yX3_redraws cX3_redraws 5 none) ∈ gw := gw_mem 530 (by decide +kernel) rfl
set_option maxRecDepth 20000 in
theorem kw_531 : (Cond.methodLink RX3 74 yX3_changed) ∈ gw := gw_mem 531 (by decide +kernel) rfl
set_option maxRecDepth 20000 in
theorem kw_532 : (Cond.static yX3_changed) ∈ gw := gw_mem 532 (by decide +kernel) rfl
set_option maxRecDepth 20000 in
theorem kw_533 : (Cond.code yX3_changed cX3_changed 4 (some FieldType.int)) ∈ gw := gw_mem 533 (by decide +kernel) rfl
set_option maxRecDepth 20000 in
theorem kw_534 : (Cond.methodLink RX3 88 yX3_leastNow) ∈ gw := gw_mem 534 (by decide +kernel) rfl
set_option maxRecDepth 20000 in
theorem kw_536 : (Cond.instanceMethod yX3_leastNow) ∈ gw := gw_mem 536 (by decide +kernel) rfl
set_option maxRecDepth 20000 in
theorem kw_537 : (Cond.code yX3_leastNow cX3_leastNow 4 (some FieldType.int)) ∈ gw := gw_mem 537 (by decide +kernel) rfl
set_option maxRecDepth 20000 in
theorem kw_538 : (Cond.methodLink RX3 92 yX3_lesser) ∈ gw := gw_mem 538 (by decide +kernel) rfl
set_option maxRecDepth 20000 in
theorem kw_539 : (Cond.static yX3_lesser) ∈ gw := gw_mem 539 (by decide +kernel) rfl
set_option maxRecDepth 20000 in
theorem kw_540 : (Cond.code yX3_lesser cX3_lesser 2 (some FieldType.int)) ∈ gw := gw_mem 540 (by decide +kernel) rfl
set_option maxRecDepth 20000 in
theorem kw_541 : (Cond.methodLink RL 99 yX3_time) ∈ gw := gw_mem 541 (by decide +kernel) rfl
set_option maxRecDepth 20000 in
theorem kw_542 : (Cond.instanceMethod yX3_time) ∈ gw := gw_mem 542 (by decide +kernel) rfl
set_option maxRecDepth 20000 in
theorem kw_543 : (Cond.selects RX3 yX3_time yX3_time) ∈ gw := gw_mem 543 (by decide +kernel) rfl
set_option maxRecDepth 20000 in
theorem kw_544 : (Cond.code yX3_time cX3_time 1 (some FieldType.int)) ∈ gw := gw_mem 544 (by decide +kernel) rfl
set_option maxRecDepth 20000 in
theorem kw_545 : (Cond.methodLink RL 102 yX3_order) ∈ gw := gw_mem 545 (by decide +kernel) rfl
set_option maxRecDepth 20000 in
theorem kw_546 : (Cond.instanceMethod yX3_order) ∈ gw := gw_mem 546 (by decide +kernel) rfl
set_option maxRecDepth 20000 in
theorem kw_547 : (Cond.selects RX3 yX3_order yX3_order) ∈ gw := gw_mem 547 (by decide +kernel) rfl
set_option maxRecDepth 20000 in
theorem kw_548 : (Cond.code yX3_order cX3_order 2 (some FieldType.int)) ∈ gw := gw_mem 548 (by decide +kernel) rfl
set_option maxRecDepth 20000 in
theorem kw_549 : (Cond.methodLink RL 106 yX3_orders) ∈ gw := gw_mem 549 (by decide +kernel) rfl
set_option maxRecDepth 20000 in
theorem kw_550 : (Cond.instanceMethod yX3_orders) ∈ gw := gw_mem 550 (by decide +kernel) rfl
set_option maxRecDepth 20000 in
theorem kw_551 : (Cond.selects RX3 yX3_orders yX3_orders) ∈ gw := gw_mem 551 (by decide +kernel) rfl
set_option maxRecDepth 20000 in
theorem kw_552 : (Cond.code yX3_orders cX3_orders 3 (some FieldType.int)) ∈ gw := gw_mem 552 (by decide +kernel) rfl
set_option maxRecDepth 20000 in
theorem kw_553 : (Cond.methodLink RL 110 yX3_nextToSend) ∈ gw := gw_mem 553 (by decide +kernel) rfl
set_option maxRecDepth 20000 in
theorem kw_554 : (Cond.instanceMethod yX3_nextToSend) ∈ gw := gw_mem 554 (by decide +kernel) rfl
set_option maxRecDepth 20000 in
theorem kw_555 : (Cond.selects RX3 yX3_nextToSend yX3_nextToSend) ∈ gw := gw_mem 555 (by decide +kernel) rfl
set_option maxRecDepth 20000 in
theorem kw_556 : (Cond.code yX3_nextToSend cX3_nextToSend 1 (some FieldType.int)) ∈ gw := gw_mem 556 (by decide +kernel) rfl
set_option maxRecDepth 20000 in
theorem kw_557 : (Cond.methodLink RL 113 yX3_shown) ∈ gw := gw_mem 557 (by decide +kernel) rfl
set_option maxRecDepth 20000 in
theorem kw_558 : (Cond.instanceMethod yX3_shown) ∈ gw := gw_mem 558 (by decide +kernel) rfl
set_option maxRecDepth 20000 in
theorem kw_559 : (Cond.selects RX3 yX3_shown yX3_shown) ∈ gw := gw_mem 559 (by decide +kernel) rfl
set_option maxRecDepth 20000 in
theorem kw_560 : (Cond.code yX3_shown cX3_shown 2 (some FieldType.int)) ∈ gw := gw_mem 560 (by decide +kernel) rfl
set_option maxRecDepth 20000 in
theorem kw_561 : (Cond.methodLink RL 116 yX3_ghosts) ∈ gw := gw_mem 561 (by decide +kernel) rfl
set_option maxRecDepth 20000 in
theorem kw_562 : (Cond.instanceMethod yX3_ghosts) ∈ gw := gw_mem 562 (by decide +kernel) rfl
set_option maxRecDepth 20000 in
theorem kw_563 : (Cond.selects RX3 yX3_ghosts yX3_ghosts) ∈ gw := gw_mem 563 (by decide +kernel) rfl
set_option maxRecDepth 20000 in
theorem kw_564 : (Cond.code yX3_ghosts cX3_ghosts 2 (some FieldType.int)) ∈ gw := gw_mem 564 (by decide +kernel) rfl
set_option maxRecDepth 20000 in
theorem kw_565 : (Cond.methodLink RL 119 yX3_battery) ∈ gw := gw_mem 565 (by decide +kernel) rfl
set_option maxRecDepth 20000 in
theorem kw_566 : (Cond.instanceMethod yX3_battery) ∈ gw := gw_mem 566 (by decide +kernel) rfl
set_option maxRecDepth 20000 in
theorem kw_567 : (Cond.selects RX3 yX3_battery yX3_battery) ∈ gw := gw_mem 567 (by decide +kernel) rfl
set_option maxRecDepth 20000 in
theorem kw_568 : (Cond.code yX3_battery cX3_battery 2 (some FieldType.int)) ∈ gw := gw_mem 568 (by decide +kernel) rfl
set_option maxRecDepth 20000 in
theorem kw_569 : (Cond.methodLink RL 123 yX3_lies) ∈ gw := gw_mem 569 (by decide +kernel) rfl
set_option maxRecDepth 20000 in
theorem kw_570 : (Cond.instanceMethod yX3_lies) ∈ gw := gw_mem 570 (by decide +kernel) rfl
set_option maxRecDepth 20000 in
theorem kw_571 : (Cond.selects RX3 yX3_lies yX3_lies) ∈ gw := gw_mem 571 (by decide +kernel) rfl
set_option maxRecDepth 20000 in
theorem kw_572 : (Cond.code yX3_lies cX3_lies 3 (some FieldType.int)) ∈ gw := gw_mem 572 (by decide +kernel) rfl
set_option maxRecDepth 20000 in
theorem kw_573 : (Cond.methodLink RL 126 yX3_asked) ∈ gw := gw_mem 573 (by decide +kernel) rfl
set_option maxRecDepth 20000 in
theorem kw_574 : (Cond.instanceMethod yX3_asked) ∈ gw := gw_mem 574 (by decide +kernel) rfl
set_option maxRecDepth 20000 in
theorem kw_575 : (Cond.selects RX3 yX3_asked yX3_asked) ∈ gw := gw_mem 575 (by decide +kernel) rfl
set_option maxRecDepth 20000 in
theorem kw_576 : (Cond.code yX3_asked cX3_asked 4 (some FieldType.int)) ∈ gw := gw_mem 576 (by decide +kernel) rfl
set_option maxRecDepth 20000 in
theorem kw_577 : (Cond.methodLink RL 129 yX3_leastEver) ∈ gw := gw_mem 577 (by decide +kernel) rfl
set_option maxRecDepth 20000 in
theorem kw_578 : (Cond.instanceMethod yX3_leastEver) ∈ gw := gw_mem 578 (by decide +kernel) rfl
set_option maxRecDepth 20000 in
theorem kw_579 : (Cond.selects RX3 yX3_leastEver yX3_leastEver) ∈ gw := gw_mem 579 (by decide +kernel) rfl
set_option maxRecDepth 20000 in
theorem kw_580 : (Cond.code yX3_leastEver cX3_leastEver 2 (some FieldType.int)) ∈ gw := gw_mem 580 (by decide +kernel) rfl
set_option maxRecDepth 20000 in
theorem kw_581 : (Cond.arrayClass FieldType.long) ∈ gw := gw_mem 581 (by decide +kernel) rfl
set_option maxRecDepth 20000 in
theorem kw_582 : (Cond.sameMethod "java/lang/Throwable" "java/lang/Throwable" "fillInStackTrace" "(I)Ljava/lang/Throwable;") ∈ gw := gw_mem 582 (by decide +kernel) rfl
end
section
/-! THE JUDGEMENT x_X: at pc, with locals ls (by place; none: unknown) and stack st, in every heap that holds the cells ws, the machine comes to a state with Q. One row an instruction. -/
def x_lh (la : Array Slot) (nL : Nat) (ls : List (Option Value)) : Prop := la.size = nL ∧ ls.length = nL ∧ lv_wf la ∧ ∀ (i : Nat) (v : Value), ls[i]? = some (some v) → la[i]? = some (.val v) ∧ v.category = 1
def x_lv (ls : List (Option Value)) : List (Nat × Value) := (List.range ls.length).filterMap (fun j => (ls[j]?.getD none).map (fun w => (j, w)))
theorem x_lv_mem {ls : List (Option Value)} {j : Nat} {w : Value} : (j, w) ∈ x_lv ls ↔ ls[j]? = some (some w) := by
  unfold x_lv
  rw [List.mem_filterMap]
  constructor
  · rintro ⟨i, hi, h⟩
    cases hg : ls[i]? with
    | none => rw [hg] at h; simp at h
    | some o =>
      rw [hg] at h
      cases o with
      | none => simp at h
      | some v =>
        simp only [Option.getD_some, Option.map_some, Option.some.injEq, Prod.mk.injEq] at h
        obtain ⟨rfl, rfl⟩ := h
        exact hg
  · intro h
    have hl : j < ls.length := (List.getElem?_eq_some_iff.mp h).1
    exact ⟨j, List.mem_range.mpr hl, by rw [h]; rfl⟩
theorem x_lh_lv {la : Array Slot} {nL : Nat} {ls : List (Option Value)} (h : x_lh la nL ls) : lv_has la nL (x_lv ls) :=
  ⟨h.1, h.2.2.1, fun q hq => (h.2.2.2 q.1 q.2 (x_lv_mem.mp hq)).1⟩
theorem x_lh_at {la : Array Slot} {nL : Nat} {ls : List (Option Value)} (h : x_lh la nL ls) {i : Nat} {v : Value} (hk : ls[i]? = some (some v)) : la[i]? = some (.val v) := (h.2.2.2 i v hk).1
theorem x_lh_st {la la' : Array Slot} {nL : Nat} {ls : List (Option Value)} {i : Nat} {v : Value} (h : x_lh la nL ls) (hc : v.category = 1)
    (h' : lv_has la' nL ((i, v) :: (x_lv ls).filter (fun q => !(q.1 == i) && !(q.1 + 1 == i && q.2.category == 2)))) : x_lh la' nL (ls.set i (some v)) := by
  refine ⟨h'.1, by rw [List.length_set]; exact h.2.1, h'.2.1, fun j w hj => ?_⟩
  by_cases e : i = j
  · subst e
    rw [List.getElem?_set_self'] at hj
    cases hg : ls[i]? with
    | none => rw [hg] at hj; cases hj
    | some o =>
      rw [hg] at hj
      cases hj
      exact ⟨h'.2.2 (i, v) List.mem_cons_self, hc⟩
  · rw [List.getElem?_set_ne e] at hj
    obtain ⟨h1, h2⟩ := h.2.2.2 j w hj
    refine ⟨h'.2.2 (j, w) (List.mem_cons_of_mem _ (List.mem_filter.mpr ⟨x_lv_mem.mpr hj, ?_⟩)), h2⟩
    have e1 : (j == i) = false := by simpa using fun q : j = i => e q.symm
    have e2 : (w.category == 2) = false := by rw [h2]; rfl
    simp [e1, e2]
theorem x_lh_sub {la : Array Slot} {nL : Nat} {ls ls' : List (Option Value)} (h : x_lh la nL ls) (hl : ls'.length = ls.length) (hs : ∀ (i : Nat) (v : Value), ls'[i]? = some (some v) → ls[i]? = some (some v)) : x_lh la nL ls' :=
  ⟨h.1, hl.trans h.2.1, h.2.2.1, fun i v q => h.2.2.2 i v (hs i v q)⟩
/-- the locals at a method's entry: the arguments (of one word each), then nothing known -/
theorem x_lh_entry (vs : List Value) {n : Nat} (hn : vs.length ≤ n) (hc : ∀ v ∈ vs, v.category = 1) : x_lh ((lg_sl vs ++ List.replicate (n - (lg_sl vs).length) Slot.unset).toArray) n (vs.map some ++ List.replicate (n - vs.length) none) := by
  have hsl : ∀ (l : List Value), (∀ v ∈ l, v.category = 1) → (lg_sl l).length = l.length := by
    intro l
    induction l with
    | nil => intro _; rfl
    | cons a t ih =>
      intro h
      have h1 := h a List.mem_cons_self
      have h2 := ih (fun v hv => h v (List.mem_cons_of_mem _ hv))
      cases a <;> simp_all [lg_sl, Value.category]
  have hla : ∀ (l : List Value) (k : Nat), (∀ v ∈ l, v.category = 1) → ∀ (i : Nat) (v : Value), l[i]? = some v → (k + i, v) ∈ lv_args k l := by
    intro l
    induction l with
    | nil => intro k _ i v h; simp at h
    | cons a t ih =>
      intro k h i v hi
      have h1 := h a List.mem_cons_self
      have hne : ¬ a.category = 2 := by omega
      unfold lv_args
      rw [if_neg hne]
      cases i with
      | zero =>
        rw [List.getElem?_cons_zero] at hi
        cases hi
        exact List.mem_cons_self
      | succ i =>
        rw [List.getElem?_cons_succ] at hi
        have := ih (k + 1) (fun v hv => h v (List.mem_cons_of_mem _ hv)) i v hi
        rw [show k + 1 + i = k + (i + 1) by omega] at this
        exact List.mem_cons_of_mem _ this
  have hlen := hsl vs hc
  obtain ⟨h1, h2, h3⟩ := lv_entry vs (n := n) (by omega)
  refine ⟨h1, by simp; omega, h2, fun i v hi => ?_⟩
  by_cases hlt : i < vs.length
  · rw [List.getElem?_append_left (by simpa using hlt), List.getElem?_map] at hi
    cases hg : vs[i]? with
    | none => rw [hg] at hi; cases hi
    | some w =>
      rw [hg] at hi
      cases hi
      have := h3 (0 + i, v) (hla vs 0 hc i v hg)
      rw [Nat.zero_add] at this
      exact ⟨this, hc v (List.mem_of_getElem? hg)⟩
  · rw [List.getElem?_append_right (by simp; omega)] at hi
    have := List.mem_of_getElem? hi
    rw [List.mem_replicate] at this
    cases this.2
def x_X (p : Program) (l : Launch) (e : Env) (R : Room) (s : State) (m : MethodId) (args : Array Value) (below : List Frame) (meth : Method) (c : Code) (D : va_G) (A : Nat → Prop) (nL cells slots : Nat) (Q : State → Prop) (ws : va_W) (pc : Nat) (ls : List (Option Value)) (st : List Value) : Prop :=
  ∀ (H : Heap) (locs : List Loc) (la : Array Slot), va_P D vwCl ws H → va_D A ws → va_S A s.heap H locs → x_lh la nL ls → W p l e R s m args below meth c H locs cells slots Q (F0 m pc la st)
section XR
variable {p : Program} {l : Launch} {e : Env} {R : Room} {s : State} {m : MethodId} {args : Array Value} {below : List Frame} {meth : Method} {c : Code} {D : va_G} {A : Nat → Prop} {nL cells slots : Nat} {Q : State → Prop}
variable {cc : ByteArray} {Ts : List Cond} {own : String} {ws : va_W} {pc : Nat} {ls : List (Option Value)} {st : List Value}
theorem x_pc {pc2 : Nat} (h : pc = pc2) (k : x_X p l e R s m args below meth c D A nL cells slots Q ws pc2 ls st) : x_X p l e R s m args below meth c D A nL cells slots Q ws pc ls st := h ▸ k
theorem x_ws {ws2 : va_W} (h : ws = ws2) (k : x_X p l e R s m args below meth c D A nL cells slots Q ws2 pc ls st) : x_X p l e R s m args below meth c D A nL cells slots Q ws pc ls st := h ▸ k
theorem x_widen {k n : Nat} (h1 : cells ≤ k) (h2 : slots ≤ n) (kk : x_X p l e R s m args below meth c D A nL k n Q ws pc ls st) : x_X p l e R s m args below meth c D A nL cells slots Q ws pc ls st := fun H locs la h3 h4 h5 h6 => W.widen h1 h2 (kk H locs la h3 h4 h5 h6)
theorem x_sub {ls2 : List (Option Value)} (hl : ls2.length = ls.length) (hs : ∀ (i : Nat) (v : Value), ls2[i]? = some (some v) → ls[i]? = some (some v)) (k : x_X p l e R s m args below meth c D A nL cells slots Q ws pc ls2 st) : x_X p l e R s m args below meth c D A nL cells slots Q ws pc ls st := fun H locs la h3 h4 h5 h6 => k H locs la h3 h4 h5 (x_lh_sub h6 hl hs)
theorem x_iconst (M : CallFix p m c cc nL s args Ts own) {n : Int} {v : Int32} (hdg : decode cc pc = .ok (.iconst n, 1)) (hv : Int32.ofInt n = v)
    (kk : x_X p l e R s m args below meth c D A nL cells slots Q ws (pc + 1) ls (.int v :: st)) : x_X p l e R s m args below meth c D A nL cells slots Q ws pc ls st :=
  fun H locs la hP hD hS hl => lv_iconst M.1 M.2.1 hdg hv (kk H locs la hP hD hS hl)
theorem x_bipush (M : CallFix p m c cc nL s args Ts own) {n : Int} {v : Int32} (hdg : decode cc pc = .ok (.bipush n, 2)) (hv : (Int8.ofInt n).toInt32 = v)
    (kk : x_X p l e R s m args below meth c D A nL cells slots Q ws (pc + 2) ls (.int v :: st)) : x_X p l e R s m args below meth c D A nL cells slots Q ws pc ls st :=
  fun H locs la hP hD hS hl => lv_bipush M.1 M.2.1 hdg hv (kk H locs la hP hD hS hl)
theorem x_sipush (M : CallFix p m c cc nL s args Ts own) {n : Int} {v : Int32} (hdg : decode cc pc = .ok (.sipush n, 3)) (hv : (Int16.ofInt n).toInt32 = v)
    (kk : x_X p l e R s m args below meth c D A nL cells slots Q ws (pc + 3) ls (.int v :: st)) : x_X p l e R s m args below meth c D A nL cells slots Q ws pc ls st :=
  fun H locs la hP hD hS hl => lv_sipush M.1 M.2.1 hdg hv (kk H locs la hP hD hS hl)
theorem x_lconst (M : CallFix p m c cc nL s args Ts own) {n : Fin 2} {v : Int64} (hdg : decode cc pc = .ok (.lconst n, 1)) (hv : Int64.ofNat (n : Nat) = v)
    (kk : x_X p l e R s m args below meth c D A nL cells slots Q ws (pc + 1) ls (.long v :: st)) : x_X p l e R s m args below meth c D A nL cells slots Q ws pc ls st :=
  fun H locs la hP hD hS hl => lv_lconst M.1 M.2.1 hdg hv (kk H locs la hP hD hS hl)
theorem x_iload0 (M : CallFix p m c cc nL s args Ts own) {t : List (Option Value)} {x : Int32} (hdg : decode cc pc = .ok (.iload_n 0, 1)) 
    (kk : x_X p l e R s m args below meth c D A nL cells slots Q ws (pc + 1) (some (.int x) :: t) (.int x :: st)) : x_X p l e R s m args below meth c D A nL cells slots Q ws pc (some (.int x) :: t) st :=
  fun H locs la hP hD hS hl => lv_iload_n M.1 M.2.1 hdg (i := 0) rfl (x_lh_at hl rfl) (kk H locs la hP hD hS hl)
theorem x_istore0 (M : CallFix p m c cc nL s args Ts own) {b9 : Option Value} {t : List (Option Value)} {x : Int32} (hdg : decode cc pc = .ok (.istore_n 0, 1)) 
    (kk : x_X p l e R s m args below meth c D A nL cells slots Q ws (pc + 1) (some (.int x) :: t) st) : x_X p l e R s m args below meth c D A nL cells slots Q ws pc (b9 :: t) (.int x :: st) :=
  fun H locs la hP hD hS hl => lv_istore_n M.1 M.2.1 hdg (i := 0) rfl (x_lh_lv hl) (by have := hl.2.1; simp only [List.length_cons] at this; omega) rfl (fun la2 h2 => kk H locs la2 hP hD hS (x_lh_st (i := 0) hl rfl h2))
theorem x_aload0 (M : CallFix p m c cc nL s args Ts own) {t : List (Option Value)} {x : Nat} (hdg : decode cc pc = .ok (.aload_n 0, 1)) 
    (kk : x_X p l e R s m args below meth c D A nL cells slots Q ws (pc + 1) (some (.ref x) :: t) (.ref x :: st)) : x_X p l e R s m args below meth c D A nL cells slots Q ws pc (some (.ref x) :: t) st :=
  fun H locs la hP hD hS hl => lv_aload_n M.1 M.2.1 hdg (i := 0) rfl (x_lh_at hl rfl) (kk H locs la hP hD hS hl)
theorem x_astore0 (M : CallFix p m c cc nL s args Ts own) {b9 : Option Value} {t : List (Option Value)} {x : Nat} (hdg : decode cc pc = .ok (.astore_n 0, 1)) 
    (kk : x_X p l e R s m args below meth c D A nL cells slots Q ws (pc + 1) (some (.ref x) :: t) st) : x_X p l e R s m args below meth c D A nL cells slots Q ws pc (b9 :: t) (.ref x :: st) :=
  fun H locs la hP hD hS hl => lv_astore_n M.1 M.2.1 hdg (i := 0) rfl (x_lh_lv hl) (by have := hl.2.1; simp only [List.length_cons] at this; omega) rfl (fun la2 h2 => kk H locs la2 hP hD hS (x_lh_st (i := 0) hl rfl h2))
theorem x_iinc0 (M : CallFix p m c cc nL s args Ts own) {t : List (Option Value)} {x v : Int32} {n : Int} (hdg : decode cc pc = .ok (.iinc 0 n, 3)) (hv : x + Int32.ofInt n = v)
    (kk : x_X p l e R s m args below meth c D A nL cells slots Q ws (pc + 3) (some (.int v) :: t) st) : x_X p l e R s m args below meth c D A nL cells slots Q ws pc (some (.int x) :: t) st :=
  fun H locs la hP hD hS hl => by
    obtain ⟨k, hk⟩ := List.getElem?_of_mem (x_lv_mem (ls := (some (.int x) :: t)) (j := 0) (w := .int x) |>.mpr rfl)
    exact lv_iinc M.1 M.2.1 hdg (x_lh_lv hl) hk hv (by have := hl.2.1; simp only [List.length_cons] at this; omega) rfl (fun la2 h2 => kk H locs la2 hP hD hS (x_lh_st (i := 0) hl rfl h2))
theorem x_iload1 (M : CallFix p m c cc nL s args Ts own) {b0 : Option Value} {t : List (Option Value)} {x : Int32} (hdg : decode cc pc = .ok (.iload_n 1, 1)) 
    (kk : x_X p l e R s m args below meth c D A nL cells slots Q ws (pc + 1) (b0 :: some (.int x) :: t) (.int x :: st)) : x_X p l e R s m args below meth c D A nL cells slots Q ws pc (b0 :: some (.int x) :: t) st :=
  fun H locs la hP hD hS hl => lv_iload_n M.1 M.2.1 hdg (i := 1) rfl (x_lh_at hl rfl) (kk H locs la hP hD hS hl)
theorem x_istore1 (M : CallFix p m c cc nL s args Ts own) {b0 : Option Value} {b9 : Option Value} {t : List (Option Value)} {x : Int32} (hdg : decode cc pc = .ok (.istore_n 1, 1)) 
    (kk : x_X p l e R s m args below meth c D A nL cells slots Q ws (pc + 1) (b0 :: some (.int x) :: t) st) : x_X p l e R s m args below meth c D A nL cells slots Q ws pc (b0 :: b9 :: t) (.int x :: st) :=
  fun H locs la hP hD hS hl => lv_istore_n M.1 M.2.1 hdg (i := 1) rfl (x_lh_lv hl) (by have := hl.2.1; simp only [List.length_cons] at this; omega) rfl (fun la2 h2 => kk H locs la2 hP hD hS (x_lh_st (i := 1) hl rfl h2))
theorem x_aload1 (M : CallFix p m c cc nL s args Ts own) {b0 : Option Value} {t : List (Option Value)} {x : Nat} (hdg : decode cc pc = .ok (.aload_n 1, 1)) 
    (kk : x_X p l e R s m args below meth c D A nL cells slots Q ws (pc + 1) (b0 :: some (.ref x) :: t) (.ref x :: st)) : x_X p l e R s m args below meth c D A nL cells slots Q ws pc (b0 :: some (.ref x) :: t) st :=
  fun H locs la hP hD hS hl => lv_aload_n M.1 M.2.1 hdg (i := 1) rfl (x_lh_at hl rfl) (kk H locs la hP hD hS hl)
theorem x_astore1 (M : CallFix p m c cc nL s args Ts own) {b0 : Option Value} {b9 : Option Value} {t : List (Option Value)} {x : Nat} (hdg : decode cc pc = .ok (.astore_n 1, 1)) 
    (kk : x_X p l e R s m args below meth c D A nL cells slots Q ws (pc + 1) (b0 :: some (.ref x) :: t) st) : x_X p l e R s m args below meth c D A nL cells slots Q ws pc (b0 :: b9 :: t) (.ref x :: st) :=
  fun H locs la hP hD hS hl => lv_astore_n M.1 M.2.1 hdg (i := 1) rfl (x_lh_lv hl) (by have := hl.2.1; simp only [List.length_cons] at this; omega) rfl (fun la2 h2 => kk H locs la2 hP hD hS (x_lh_st (i := 1) hl rfl h2))
theorem x_iinc1 (M : CallFix p m c cc nL s args Ts own) {b0 : Option Value} {t : List (Option Value)} {x v : Int32} {n : Int} (hdg : decode cc pc = .ok (.iinc 1 n, 3)) (hv : x + Int32.ofInt n = v)
    (kk : x_X p l e R s m args below meth c D A nL cells slots Q ws (pc + 3) (b0 :: some (.int v) :: t) st) : x_X p l e R s m args below meth c D A nL cells slots Q ws pc (b0 :: some (.int x) :: t) st :=
  fun H locs la hP hD hS hl => by
    obtain ⟨k, hk⟩ := List.getElem?_of_mem (x_lv_mem (ls := (b0 :: some (.int x) :: t)) (j := 1) (w := .int x) |>.mpr rfl)
    exact lv_iinc M.1 M.2.1 hdg (x_lh_lv hl) hk hv (by have := hl.2.1; simp only [List.length_cons] at this; omega) rfl (fun la2 h2 => kk H locs la2 hP hD hS (x_lh_st (i := 1) hl rfl h2))
theorem x_iload2 (M : CallFix p m c cc nL s args Ts own) {b0 b1 : Option Value} {t : List (Option Value)} {x : Int32} (hdg : decode cc pc = .ok (.iload_n 2, 1)) 
    (kk : x_X p l e R s m args below meth c D A nL cells slots Q ws (pc + 1) (b0 :: b1 :: some (.int x) :: t) (.int x :: st)) : x_X p l e R s m args below meth c D A nL cells slots Q ws pc (b0 :: b1 :: some (.int x) :: t) st :=
  fun H locs la hP hD hS hl => lv_iload_n M.1 M.2.1 hdg (i := 2) rfl (x_lh_at hl rfl) (kk H locs la hP hD hS hl)
theorem x_istore2 (M : CallFix p m c cc nL s args Ts own) {b0 b1 : Option Value} {b9 : Option Value} {t : List (Option Value)} {x : Int32} (hdg : decode cc pc = .ok (.istore_n 2, 1)) 
    (kk : x_X p l e R s m args below meth c D A nL cells slots Q ws (pc + 1) (b0 :: b1 :: some (.int x) :: t) st) : x_X p l e R s m args below meth c D A nL cells slots Q ws pc (b0 :: b1 :: b9 :: t) (.int x :: st) :=
  fun H locs la hP hD hS hl => lv_istore_n M.1 M.2.1 hdg (i := 2) rfl (x_lh_lv hl) (by have := hl.2.1; simp only [List.length_cons] at this; omega) rfl (fun la2 h2 => kk H locs la2 hP hD hS (x_lh_st (i := 2) hl rfl h2))
theorem x_aload2 (M : CallFix p m c cc nL s args Ts own) {b0 b1 : Option Value} {t : List (Option Value)} {x : Nat} (hdg : decode cc pc = .ok (.aload_n 2, 1)) 
    (kk : x_X p l e R s m args below meth c D A nL cells slots Q ws (pc + 1) (b0 :: b1 :: some (.ref x) :: t) (.ref x :: st)) : x_X p l e R s m args below meth c D A nL cells slots Q ws pc (b0 :: b1 :: some (.ref x) :: t) st :=
  fun H locs la hP hD hS hl => lv_aload_n M.1 M.2.1 hdg (i := 2) rfl (x_lh_at hl rfl) (kk H locs la hP hD hS hl)
theorem x_astore2 (M : CallFix p m c cc nL s args Ts own) {b0 b1 : Option Value} {b9 : Option Value} {t : List (Option Value)} {x : Nat} (hdg : decode cc pc = .ok (.astore_n 2, 1)) 
    (kk : x_X p l e R s m args below meth c D A nL cells slots Q ws (pc + 1) (b0 :: b1 :: some (.ref x) :: t) st) : x_X p l e R s m args below meth c D A nL cells slots Q ws pc (b0 :: b1 :: b9 :: t) (.ref x :: st) :=
  fun H locs la hP hD hS hl => lv_astore_n M.1 M.2.1 hdg (i := 2) rfl (x_lh_lv hl) (by have := hl.2.1; simp only [List.length_cons] at this; omega) rfl (fun la2 h2 => kk H locs la2 hP hD hS (x_lh_st (i := 2) hl rfl h2))
theorem x_iinc2 (M : CallFix p m c cc nL s args Ts own) {b0 b1 : Option Value} {t : List (Option Value)} {x v : Int32} {n : Int} (hdg : decode cc pc = .ok (.iinc 2 n, 3)) (hv : x + Int32.ofInt n = v)
    (kk : x_X p l e R s m args below meth c D A nL cells slots Q ws (pc + 3) (b0 :: b1 :: some (.int v) :: t) st) : x_X p l e R s m args below meth c D A nL cells slots Q ws pc (b0 :: b1 :: some (.int x) :: t) st :=
  fun H locs la hP hD hS hl => by
    obtain ⟨k, hk⟩ := List.getElem?_of_mem (x_lv_mem (ls := (b0 :: b1 :: some (.int x) :: t)) (j := 2) (w := .int x) |>.mpr rfl)
    exact lv_iinc M.1 M.2.1 hdg (x_lh_lv hl) hk hv (by have := hl.2.1; simp only [List.length_cons] at this; omega) rfl (fun la2 h2 => kk H locs la2 hP hD hS (x_lh_st (i := 2) hl rfl h2))
theorem x_iload3 (M : CallFix p m c cc nL s args Ts own) {b0 b1 b2 : Option Value} {t : List (Option Value)} {x : Int32} (hdg : decode cc pc = .ok (.iload_n 3, 1)) 
    (kk : x_X p l e R s m args below meth c D A nL cells slots Q ws (pc + 1) (b0 :: b1 :: b2 :: some (.int x) :: t) (.int x :: st)) : x_X p l e R s m args below meth c D A nL cells slots Q ws pc (b0 :: b1 :: b2 :: some (.int x) :: t) st :=
  fun H locs la hP hD hS hl => lv_iload_n M.1 M.2.1 hdg (i := 3) rfl (x_lh_at hl rfl) (kk H locs la hP hD hS hl)
theorem x_istore3 (M : CallFix p m c cc nL s args Ts own) {b0 b1 b2 : Option Value} {b9 : Option Value} {t : List (Option Value)} {x : Int32} (hdg : decode cc pc = .ok (.istore_n 3, 1)) 
    (kk : x_X p l e R s m args below meth c D A nL cells slots Q ws (pc + 1) (b0 :: b1 :: b2 :: some (.int x) :: t) st) : x_X p l e R s m args below meth c D A nL cells slots Q ws pc (b0 :: b1 :: b2 :: b9 :: t) (.int x :: st) :=
  fun H locs la hP hD hS hl => lv_istore_n M.1 M.2.1 hdg (i := 3) rfl (x_lh_lv hl) (by have := hl.2.1; simp only [List.length_cons] at this; omega) rfl (fun la2 h2 => kk H locs la2 hP hD hS (x_lh_st (i := 3) hl rfl h2))
theorem x_aload3 (M : CallFix p m c cc nL s args Ts own) {b0 b1 b2 : Option Value} {t : List (Option Value)} {x : Nat} (hdg : decode cc pc = .ok (.aload_n 3, 1)) 
    (kk : x_X p l e R s m args below meth c D A nL cells slots Q ws (pc + 1) (b0 :: b1 :: b2 :: some (.ref x) :: t) (.ref x :: st)) : x_X p l e R s m args below meth c D A nL cells slots Q ws pc (b0 :: b1 :: b2 :: some (.ref x) :: t) st :=
  fun H locs la hP hD hS hl => lv_aload_n M.1 M.2.1 hdg (i := 3) rfl (x_lh_at hl rfl) (kk H locs la hP hD hS hl)
theorem x_astore3 (M : CallFix p m c cc nL s args Ts own) {b0 b1 b2 : Option Value} {b9 : Option Value} {t : List (Option Value)} {x : Nat} (hdg : decode cc pc = .ok (.astore_n 3, 1)) 
    (kk : x_X p l e R s m args below meth c D A nL cells slots Q ws (pc + 1) (b0 :: b1 :: b2 :: some (.ref x) :: t) st) : x_X p l e R s m args below meth c D A nL cells slots Q ws pc (b0 :: b1 :: b2 :: b9 :: t) (.ref x :: st) :=
  fun H locs la hP hD hS hl => lv_astore_n M.1 M.2.1 hdg (i := 3) rfl (x_lh_lv hl) (by have := hl.2.1; simp only [List.length_cons] at this; omega) rfl (fun la2 h2 => kk H locs la2 hP hD hS (x_lh_st (i := 3) hl rfl h2))
theorem x_iinc3 (M : CallFix p m c cc nL s args Ts own) {b0 b1 b2 : Option Value} {t : List (Option Value)} {x v : Int32} {n : Int} (hdg : decode cc pc = .ok (.iinc 3 n, 3)) (hv : x + Int32.ofInt n = v)
    (kk : x_X p l e R s m args below meth c D A nL cells slots Q ws (pc + 3) (b0 :: b1 :: b2 :: some (.int v) :: t) st) : x_X p l e R s m args below meth c D A nL cells slots Q ws pc (b0 :: b1 :: b2 :: some (.int x) :: t) st :=
  fun H locs la hP hD hS hl => by
    obtain ⟨k, hk⟩ := List.getElem?_of_mem (x_lv_mem (ls := (b0 :: b1 :: b2 :: some (.int x) :: t)) (j := 3) (w := .int x) |>.mpr rfl)
    exact lv_iinc M.1 M.2.1 hdg (x_lh_lv hl) hk hv (by have := hl.2.1; simp only [List.length_cons] at this; omega) rfl (fun la2 h2 => kk H locs la2 hP hD hS (x_lh_st (i := 3) hl rfl h2))
theorem x_iload4 (M : CallFix p m c cc nL s args Ts own) {b0 b1 b2 b3 : Option Value} {t : List (Option Value)} {x : Int32} (hdg : decode cc pc = .ok (.iload 4, 2)) 
    (kk : x_X p l e R s m args below meth c D A nL cells slots Q ws (pc + 2) (b0 :: b1 :: b2 :: b3 :: some (.int x) :: t) (.int x :: st)) : x_X p l e R s m args below meth c D A nL cells slots Q ws pc (b0 :: b1 :: b2 :: b3 :: some (.int x) :: t) st :=
  fun H locs la hP hD hS hl => lv_iload M.1 M.2.1 hdg (x_lh_at hl rfl) (kk H locs la hP hD hS hl)
theorem x_istore4 (M : CallFix p m c cc nL s args Ts own) {b0 b1 b2 b3 : Option Value} {b9 : Option Value} {t : List (Option Value)} {x : Int32} (hdg : decode cc pc = .ok (.istore 4, 2)) 
    (kk : x_X p l e R s m args below meth c D A nL cells slots Q ws (pc + 2) (b0 :: b1 :: b2 :: b3 :: some (.int x) :: t) st) : x_X p l e R s m args below meth c D A nL cells slots Q ws pc (b0 :: b1 :: b2 :: b3 :: b9 :: t) (.int x :: st) :=
  fun H locs la hP hD hS hl => lv_istore M.1 M.2.1 hdg (x_lh_lv hl) (by have := hl.2.1; simp only [List.length_cons] at this; omega) rfl (fun la2 h2 => kk H locs la2 hP hD hS (x_lh_st (i := 4) hl rfl h2))
theorem x_aload4 (M : CallFix p m c cc nL s args Ts own) {b0 b1 b2 b3 : Option Value} {t : List (Option Value)} {x : Nat} (hdg : decode cc pc = .ok (.aload 4, 2)) 
    (kk : x_X p l e R s m args below meth c D A nL cells slots Q ws (pc + 2) (b0 :: b1 :: b2 :: b3 :: some (.ref x) :: t) (.ref x :: st)) : x_X p l e R s m args below meth c D A nL cells slots Q ws pc (b0 :: b1 :: b2 :: b3 :: some (.ref x) :: t) st :=
  fun H locs la hP hD hS hl => lv_aload M.1 M.2.1 hdg (x_lh_at hl rfl) (kk H locs la hP hD hS hl)
theorem x_astore4 (M : CallFix p m c cc nL s args Ts own) {b0 b1 b2 b3 : Option Value} {b9 : Option Value} {t : List (Option Value)} {x : Nat} (hdg : decode cc pc = .ok (.astore 4, 2)) 
    (kk : x_X p l e R s m args below meth c D A nL cells slots Q ws (pc + 2) (b0 :: b1 :: b2 :: b3 :: some (.ref x) :: t) st) : x_X p l e R s m args below meth c D A nL cells slots Q ws pc (b0 :: b1 :: b2 :: b3 :: b9 :: t) (.ref x :: st) :=
  fun H locs la hP hD hS hl => lv_astore M.1 M.2.1 hdg (x_lh_lv hl) (by have := hl.2.1; simp only [List.length_cons] at this; omega) rfl (fun la2 h2 => kk H locs la2 hP hD hS (x_lh_st (i := 4) hl rfl h2))
theorem x_iinc4 (M : CallFix p m c cc nL s args Ts own) {b0 b1 b2 b3 : Option Value} {t : List (Option Value)} {x v : Int32} {n : Int} (hdg : decode cc pc = .ok (.iinc 4 n, 3)) (hv : x + Int32.ofInt n = v)
    (kk : x_X p l e R s m args below meth c D A nL cells slots Q ws (pc + 3) (b0 :: b1 :: b2 :: b3 :: some (.int v) :: t) st) : x_X p l e R s m args below meth c D A nL cells slots Q ws pc (b0 :: b1 :: b2 :: b3 :: some (.int x) :: t) st :=
  fun H locs la hP hD hS hl => by
    obtain ⟨k, hk⟩ := List.getElem?_of_mem (x_lv_mem (ls := (b0 :: b1 :: b2 :: b3 :: some (.int x) :: t)) (j := 4) (w := .int x) |>.mpr rfl)
    exact lv_iinc M.1 M.2.1 hdg (x_lh_lv hl) hk hv (by have := hl.2.1; simp only [List.length_cons] at this; omega) rfl (fun la2 h2 => kk H locs la2 hP hD hS (x_lh_st (i := 4) hl rfl h2))
theorem x_iload5 (M : CallFix p m c cc nL s args Ts own) {b0 b1 b2 b3 b4 : Option Value} {t : List (Option Value)} {x : Int32} (hdg : decode cc pc = .ok (.iload 5, 2)) 
    (kk : x_X p l e R s m args below meth c D A nL cells slots Q ws (pc + 2) (b0 :: b1 :: b2 :: b3 :: b4 :: some (.int x) :: t) (.int x :: st)) : x_X p l e R s m args below meth c D A nL cells slots Q ws pc (b0 :: b1 :: b2 :: b3 :: b4 :: some (.int x) :: t) st :=
  fun H locs la hP hD hS hl => lv_iload M.1 M.2.1 hdg (x_lh_at hl rfl) (kk H locs la hP hD hS hl)
theorem x_istore5 (M : CallFix p m c cc nL s args Ts own) {b0 b1 b2 b3 b4 : Option Value} {b9 : Option Value} {t : List (Option Value)} {x : Int32} (hdg : decode cc pc = .ok (.istore 5, 2)) 
    (kk : x_X p l e R s m args below meth c D A nL cells slots Q ws (pc + 2) (b0 :: b1 :: b2 :: b3 :: b4 :: some (.int x) :: t) st) : x_X p l e R s m args below meth c D A nL cells slots Q ws pc (b0 :: b1 :: b2 :: b3 :: b4 :: b9 :: t) (.int x :: st) :=
  fun H locs la hP hD hS hl => lv_istore M.1 M.2.1 hdg (x_lh_lv hl) (by have := hl.2.1; simp only [List.length_cons] at this; omega) rfl (fun la2 h2 => kk H locs la2 hP hD hS (x_lh_st (i := 5) hl rfl h2))
theorem x_aload5 (M : CallFix p m c cc nL s args Ts own) {b0 b1 b2 b3 b4 : Option Value} {t : List (Option Value)} {x : Nat} (hdg : decode cc pc = .ok (.aload 5, 2)) 
    (kk : x_X p l e R s m args below meth c D A nL cells slots Q ws (pc + 2) (b0 :: b1 :: b2 :: b3 :: b4 :: some (.ref x) :: t) (.ref x :: st)) : x_X p l e R s m args below meth c D A nL cells slots Q ws pc (b0 :: b1 :: b2 :: b3 :: b4 :: some (.ref x) :: t) st :=
  fun H locs la hP hD hS hl => lv_aload M.1 M.2.1 hdg (x_lh_at hl rfl) (kk H locs la hP hD hS hl)
theorem x_astore5 (M : CallFix p m c cc nL s args Ts own) {b0 b1 b2 b3 b4 : Option Value} {b9 : Option Value} {t : List (Option Value)} {x : Nat} (hdg : decode cc pc = .ok (.astore 5, 2)) 
    (kk : x_X p l e R s m args below meth c D A nL cells slots Q ws (pc + 2) (b0 :: b1 :: b2 :: b3 :: b4 :: some (.ref x) :: t) st) : x_X p l e R s m args below meth c D A nL cells slots Q ws pc (b0 :: b1 :: b2 :: b3 :: b4 :: b9 :: t) (.ref x :: st) :=
  fun H locs la hP hD hS hl => lv_astore M.1 M.2.1 hdg (x_lh_lv hl) (by have := hl.2.1; simp only [List.length_cons] at this; omega) rfl (fun la2 h2 => kk H locs la2 hP hD hS (x_lh_st (i := 5) hl rfl h2))
theorem x_iinc5 (M : CallFix p m c cc nL s args Ts own) {b0 b1 b2 b3 b4 : Option Value} {t : List (Option Value)} {x v : Int32} {n : Int} (hdg : decode cc pc = .ok (.iinc 5 n, 3)) (hv : x + Int32.ofInt n = v)
    (kk : x_X p l e R s m args below meth c D A nL cells slots Q ws (pc + 3) (b0 :: b1 :: b2 :: b3 :: b4 :: some (.int v) :: t) st) : x_X p l e R s m args below meth c D A nL cells slots Q ws pc (b0 :: b1 :: b2 :: b3 :: b4 :: some (.int x) :: t) st :=
  fun H locs la hP hD hS hl => by
    obtain ⟨k, hk⟩ := List.getElem?_of_mem (x_lv_mem (ls := (b0 :: b1 :: b2 :: b3 :: b4 :: some (.int x) :: t)) (j := 5) (w := .int x) |>.mpr rfl)
    exact lv_iinc M.1 M.2.1 hdg (x_lh_lv hl) hk hv (by have := hl.2.1; simp only [List.length_cons] at this; omega) rfl (fun la2 h2 => kk H locs la2 hP hD hS (x_lh_st (i := 5) hl rfl h2))
theorem x_iload6 (M : CallFix p m c cc nL s args Ts own) {b0 b1 b2 b3 b4 b5 : Option Value} {t : List (Option Value)} {x : Int32} (hdg : decode cc pc = .ok (.iload 6, 2)) 
    (kk : x_X p l e R s m args below meth c D A nL cells slots Q ws (pc + 2) (b0 :: b1 :: b2 :: b3 :: b4 :: b5 :: some (.int x) :: t) (.int x :: st)) : x_X p l e R s m args below meth c D A nL cells slots Q ws pc (b0 :: b1 :: b2 :: b3 :: b4 :: b5 :: some (.int x) :: t) st :=
  fun H locs la hP hD hS hl => lv_iload M.1 M.2.1 hdg (x_lh_at hl rfl) (kk H locs la hP hD hS hl)
theorem x_istore6 (M : CallFix p m c cc nL s args Ts own) {b0 b1 b2 b3 b4 b5 : Option Value} {b9 : Option Value} {t : List (Option Value)} {x : Int32} (hdg : decode cc pc = .ok (.istore 6, 2)) 
    (kk : x_X p l e R s m args below meth c D A nL cells slots Q ws (pc + 2) (b0 :: b1 :: b2 :: b3 :: b4 :: b5 :: some (.int x) :: t) st) : x_X p l e R s m args below meth c D A nL cells slots Q ws pc (b0 :: b1 :: b2 :: b3 :: b4 :: b5 :: b9 :: t) (.int x :: st) :=
  fun H locs la hP hD hS hl => lv_istore M.1 M.2.1 hdg (x_lh_lv hl) (by have := hl.2.1; simp only [List.length_cons] at this; omega) rfl (fun la2 h2 => kk H locs la2 hP hD hS (x_lh_st (i := 6) hl rfl h2))
theorem x_aload6 (M : CallFix p m c cc nL s args Ts own) {b0 b1 b2 b3 b4 b5 : Option Value} {t : List (Option Value)} {x : Nat} (hdg : decode cc pc = .ok (.aload 6, 2)) 
    (kk : x_X p l e R s m args below meth c D A nL cells slots Q ws (pc + 2) (b0 :: b1 :: b2 :: b3 :: b4 :: b5 :: some (.ref x) :: t) (.ref x :: st)) : x_X p l e R s m args below meth c D A nL cells slots Q ws pc (b0 :: b1 :: b2 :: b3 :: b4 :: b5 :: some (.ref x) :: t) st :=
  fun H locs la hP hD hS hl => lv_aload M.1 M.2.1 hdg (x_lh_at hl rfl) (kk H locs la hP hD hS hl)
theorem x_astore6 (M : CallFix p m c cc nL s args Ts own) {b0 b1 b2 b3 b4 b5 : Option Value} {b9 : Option Value} {t : List (Option Value)} {x : Nat} (hdg : decode cc pc = .ok (.astore 6, 2)) 
    (kk : x_X p l e R s m args below meth c D A nL cells slots Q ws (pc + 2) (b0 :: b1 :: b2 :: b3 :: b4 :: b5 :: some (.ref x) :: t) st) : x_X p l e R s m args below meth c D A nL cells slots Q ws pc (b0 :: b1 :: b2 :: b3 :: b4 :: b5 :: b9 :: t) (.ref x :: st) :=
  fun H locs la hP hD hS hl => lv_astore M.1 M.2.1 hdg (x_lh_lv hl) (by have := hl.2.1; simp only [List.length_cons] at this; omega) rfl (fun la2 h2 => kk H locs la2 hP hD hS (x_lh_st (i := 6) hl rfl h2))
theorem x_iinc6 (M : CallFix p m c cc nL s args Ts own) {b0 b1 b2 b3 b4 b5 : Option Value} {t : List (Option Value)} {x v : Int32} {n : Int} (hdg : decode cc pc = .ok (.iinc 6 n, 3)) (hv : x + Int32.ofInt n = v)
    (kk : x_X p l e R s m args below meth c D A nL cells slots Q ws (pc + 3) (b0 :: b1 :: b2 :: b3 :: b4 :: b5 :: some (.int v) :: t) st) : x_X p l e R s m args below meth c D A nL cells slots Q ws pc (b0 :: b1 :: b2 :: b3 :: b4 :: b5 :: some (.int x) :: t) st :=
  fun H locs la hP hD hS hl => by
    obtain ⟨k, hk⟩ := List.getElem?_of_mem (x_lv_mem (ls := (b0 :: b1 :: b2 :: b3 :: b4 :: b5 :: some (.int x) :: t)) (j := 6) (w := .int x) |>.mpr rfl)
    exact lv_iinc M.1 M.2.1 hdg (x_lh_lv hl) hk hv (by have := hl.2.1; simp only [List.length_cons] at this; omega) rfl (fun la2 h2 => kk H locs la2 hP hD hS (x_lh_st (i := 6) hl rfl h2))
theorem x_iadd (M : CallFix p m c cc nL s args Ts own) {x y v : Int32} (hdg : decode cc pc = .ok (.iadd, 1)) (hv : x + y = v)
    (kk : x_X p l e R s m args below meth c D A nL cells slots Q ws (pc + 1) ls (.int v :: st)) : x_X p l e R s m args below meth c D A nL cells slots Q ws pc ls (.int y :: .int x :: st) :=
  fun H locs la hP hD hS hl => by subst hv; exact lv_iadd M.1 M.2.1 hdg (kk H locs la hP hD hS hl)
theorem x_isub (M : CallFix p m c cc nL s args Ts own) {x y v : Int32} (hdg : decode cc pc = .ok (.isub, 1)) (hv : x - y = v)
    (kk : x_X p l e R s m args below meth c D A nL cells slots Q ws (pc + 1) ls (.int v :: st)) : x_X p l e R s m args below meth c D A nL cells slots Q ws pc ls (.int y :: .int x :: st) :=
  fun H locs la hP hD hS hl => by subst hv; exact lv_isub M.1 M.2.1 hdg (kk H locs la hP hD hS hl)
theorem x_imul (M : CallFix p m c cc nL s args Ts own) {x y v : Int32} (hdg : decode cc pc = .ok (.imul, 1)) (hv : x * y = v)
    (kk : x_X p l e R s m args below meth c D A nL cells slots Q ws (pc + 1) ls (.int v :: st)) : x_X p l e R s m args below meth c D A nL cells slots Q ws pc ls (.int y :: .int x :: st) :=
  fun H locs la hP hD hS hl => by subst hv; exact lv_imul M.1 M.2.1 hdg (kk H locs la hP hD hS hl)
theorem x_iand (M : CallFix p m c cc nL s args Ts own) {x y v : Int32} (hdg : decode cc pc = .ok (.iand, 1)) (hv : x &&& y = v)
    (kk : x_X p l e R s m args below meth c D A nL cells slots Q ws (pc + 1) ls (.int v :: st)) : x_X p l e R s m args below meth c D A nL cells slots Q ws pc ls (.int y :: .int x :: st) :=
  fun H locs la hP hD hS hl => by subst hv; exact lv_iand M.1 M.2.1 hdg (kk H locs la hP hD hS hl)
theorem x_ior (M : CallFix p m c cc nL s args Ts own) {x y v : Int32} (hdg : decode cc pc = .ok (.ior, 1)) (hv : x ||| y = v)
    (kk : x_X p l e R s m args below meth c D A nL cells slots Q ws (pc + 1) ls (.int v :: st)) : x_X p l e R s m args below meth c D A nL cells slots Q ws pc ls (.int y :: .int x :: st) :=
  fun H locs la hP hD hS hl => by subst hv; exact lv_ior M.1 M.2.1 hdg (kk H locs la hP hD hS hl)
theorem x_idiv (M : CallFix p m c cc nL s args Ts own) {x y v : Int32} (hdg : decode cc pc = .ok (.idiv, 1)) (hne : ¬ y = 0) (hv : x / y = v)
    (kk : x_X p l e R s m args below meth c D A nL cells slots Q ws (pc + 1) ls (.int v :: st)) : x_X p l e R s m args below meth c D A nL cells slots Q ws pc ls (.int y :: .int x :: st) :=
  fun H locs la hP hD hS hl => by subst hv; exact lv_idiv M.1 M.2.1 hdg hne (kk H locs la hP hD hS hl)
theorem x_irem (M : CallFix p m c cc nL s args Ts own) {x y v : Int32} (hdg : decode cc pc = .ok (.irem, 1)) (hne : ¬ y = 0) (hv : x - x / y * y = v)
    (kk : x_X p l e R s m args below meth c D A nL cells slots Q ws (pc + 1) ls (.int v :: st)) : x_X p l e R s m args below meth c D A nL cells slots Q ws pc ls (.int y :: .int x :: st) :=
  fun H locs la hP hD hS hl => by subst hv; exact lv_irem M.1 M.2.1 hdg hne (kk H locs la hP hD hS hl)
theorem x_ishl (M : CallFix p m c cc nL s args Ts own) {x y v : Int32} (hdg : decode cc pc = .ok (.ishl, 1)) (hv : x <<< (y &&& 31) = v)
    (kk : x_X p l e R s m args below meth c D A nL cells slots Q ws (pc + 1) ls (.int v :: st)) : x_X p l e R s m args below meth c D A nL cells slots Q ws pc ls (.int y :: .int x :: st) :=
  fun H locs la hP hD hS hl => by subst hv; exact lv_ishl M.1 M.2.1 hdg (kk H locs la hP hD hS hl)
theorem x_i2l (M : CallFix p m c cc nL s args Ts own) {x : Int32} (hdg : decode cc pc = .ok (.i2l, 1)) 
    (kk : x_X p l e R s m args below meth c D A nL cells slots Q ws (pc + 1) ls (.long x.toInt64 :: st)) : x_X p l e R s m args below meth c D A nL cells slots Q ws pc ls (.int x :: st) :=
  fun H locs la hP hD hS hl => lv_i2l M.1 M.2.1 hdg rfl (kk H locs la hP hD hS hl)
theorem x_lcmp (M : CallFix p m c cc nL s args Ts own) {x y : Int64} (hdg : decode cc pc = .ok (.lcmp, 1)) 
    (kk : x_X p l e R s m args below meth c D A nL cells slots Q ws (pc + 1) ls (.int (lg_cmp x y) :: st)) : x_X p l e R s m args below meth c D A nL cells slots Q ws pc ls (.long y :: .long x :: st) :=
  fun H locs la hP hD hS hl => W.lcmp M.1 M.2.1 hdg (kk H locs la hP hD hS hl)
theorem x_dup (M : CallFix p m c cc nL s args Ts own) {va : Value} (hdg : decode cc pc = .ok (.dup, 1)) (hva : va.category = 1)
    (kk : x_X p l e R s m args below meth c D A nL cells slots Q ws (pc + 1) ls (va :: va :: st)) : x_X p l e R s m args below meth c D A nL cells slots Q ws pc ls (va :: st) :=
  fun H locs la hP hD hS hl => lv_dup M.1 M.2.1 hdg hva (kk H locs la hP hD hS hl)
theorem x_dup2 (M : CallFix p m c cc nL s args Ts own) {va vb : Value} (hdg : decode cc pc = .ok (.dup2, 1)) (hva : va.category = 1) (hvb : vb.category = 1)
    (kk : x_X p l e R s m args below meth c D A nL cells slots Q ws (pc + 1) ls (va :: vb :: va :: vb :: st)) : x_X p l e R s m args below meth c D A nL cells slots Q ws pc ls (va :: vb :: st) :=
  fun H locs la hP hD hS hl => lv_dup2_11 M.1 M.2.1 hdg hva hvb (kk H locs la hP hD hS hl)
-- branches
theorem x_icmp_eq (M : CallFix p m c cc nL s args Ts own) {x y : Int32} {off : Int} {tgt : Nat} (hdg : decode cc pc = .ok (.if_icmp .eq off, 3)) (ht : (pc : Int) + off = (tgt : Int))
    (kt : x = y → x_X p l e R s m args below meth c D A nL cells slots Q ws tgt ls st) (kf : ¬ x = y → x_X p l e R s m args below meth c D A nL cells slots Q ws (pc + 3) ls st) : x_X p l e R s m args below meth c D A nL cells slots Q ws pc ls (.int y :: .int x :: st) :=
  fun H locs la hP hD hS hl => lv_icmp_eq M.1 M.2.1 hdg ht (fun q => kt q H locs la hP hD hS hl) (fun q => kf q H locs la hP hD hS hl)
theorem x_if_eq (M : CallFix p m c cc nL s args Ts own) {x : Int32} {off : Int} {tgt : Nat} (hdg : decode cc pc = .ok (.ifCond .eq off, 3)) (ht : (pc : Int) + off = (tgt : Int))
    (kt : x = 0 → x_X p l e R s m args below meth c D A nL cells slots Q ws tgt ls st) (kf : ¬ x = 0 → x_X p l e R s m args below meth c D A nL cells slots Q ws (pc + 3) ls st) : x_X p l e R s m args below meth c D A nL cells slots Q ws pc ls (.int x :: st) :=
  fun H locs la hP hD hS hl => lv_if_eq M.1 M.2.1 hdg ht (fun q => kt q H locs la hP hD hS hl) (fun q => kf q H locs la hP hD hS hl)
theorem x_icmp_ne (M : CallFix p m c cc nL s args Ts own) {x y : Int32} {off : Int} {tgt : Nat} (hdg : decode cc pc = .ok (.if_icmp .ne off, 3)) (ht : (pc : Int) + off = (tgt : Int))
    (kt : ¬ x = y → x_X p l e R s m args below meth c D A nL cells slots Q ws tgt ls st) (kf : x = y → x_X p l e R s m args below meth c D A nL cells slots Q ws (pc + 3) ls st) : x_X p l e R s m args below meth c D A nL cells slots Q ws pc ls (.int y :: .int x :: st) :=
  fun H locs la hP hD hS hl => lv_icmp_ne M.1 M.2.1 hdg ht (fun q => kt q H locs la hP hD hS hl) (fun q => kf q H locs la hP hD hS hl)
theorem x_if_ne (M : CallFix p m c cc nL s args Ts own) {x : Int32} {off : Int} {tgt : Nat} (hdg : decode cc pc = .ok (.ifCond .ne off, 3)) (ht : (pc : Int) + off = (tgt : Int))
    (kt : ¬ x = 0 → x_X p l e R s m args below meth c D A nL cells slots Q ws tgt ls st) (kf : x = 0 → x_X p l e R s m args below meth c D A nL cells slots Q ws (pc + 3) ls st) : x_X p l e R s m args below meth c D A nL cells slots Q ws pc ls (.int x :: st) :=
  fun H locs la hP hD hS hl => lv_if_ne M.1 M.2.1 hdg ht (fun q => kt q H locs la hP hD hS hl) (fun q => kf q H locs la hP hD hS hl)
theorem x_icmp_lt (M : CallFix p m c cc nL s args Ts own) {x y : Int32} {off : Int} {tgt : Nat} (hdg : decode cc pc = .ok (.if_icmp .lt off, 3)) (ht : (pc : Int) + off = (tgt : Int))
    (kt : x < y → x_X p l e R s m args below meth c D A nL cells slots Q ws tgt ls st) (kf : ¬ x < y → x_X p l e R s m args below meth c D A nL cells slots Q ws (pc + 3) ls st) : x_X p l e R s m args below meth c D A nL cells slots Q ws pc ls (.int y :: .int x :: st) :=
  fun H locs la hP hD hS hl => lv_icmp_lt M.1 M.2.1 hdg ht (fun q => kt q H locs la hP hD hS hl) (fun q => kf q H locs la hP hD hS hl)
theorem x_if_lt (M : CallFix p m c cc nL s args Ts own) {x : Int32} {off : Int} {tgt : Nat} (hdg : decode cc pc = .ok (.ifCond .lt off, 3)) (ht : (pc : Int) + off = (tgt : Int))
    (kt : x < 0 → x_X p l e R s m args below meth c D A nL cells slots Q ws tgt ls st) (kf : ¬ x < 0 → x_X p l e R s m args below meth c D A nL cells slots Q ws (pc + 3) ls st) : x_X p l e R s m args below meth c D A nL cells slots Q ws pc ls (.int x :: st) :=
  fun H locs la hP hD hS hl => lv_if_lt M.1 M.2.1 hdg ht (fun q => kt q H locs la hP hD hS hl) (fun q => kf q H locs la hP hD hS hl)
theorem x_icmp_ge (M : CallFix p m c cc nL s args Ts own) {x y : Int32} {off : Int} {tgt : Nat} (hdg : decode cc pc = .ok (.if_icmp .ge off, 3)) (ht : (pc : Int) + off = (tgt : Int))
    (kt : y ≤ x → x_X p l e R s m args below meth c D A nL cells slots Q ws tgt ls st) (kf : ¬ y ≤ x → x_X p l e R s m args below meth c D A nL cells slots Q ws (pc + 3) ls st) : x_X p l e R s m args below meth c D A nL cells slots Q ws pc ls (.int y :: .int x :: st) :=
  fun H locs la hP hD hS hl => lv_icmp_ge M.1 M.2.1 hdg ht (fun q => kt q H locs la hP hD hS hl) (fun q => kf q H locs la hP hD hS hl)
theorem x_if_ge (M : CallFix p m c cc nL s args Ts own) {x : Int32} {off : Int} {tgt : Nat} (hdg : decode cc pc = .ok (.ifCond .ge off, 3)) (ht : (pc : Int) + off = (tgt : Int))
    (kt : 0 ≤ x → x_X p l e R s m args below meth c D A nL cells slots Q ws tgt ls st) (kf : ¬ 0 ≤ x → x_X p l e R s m args below meth c D A nL cells slots Q ws (pc + 3) ls st) : x_X p l e R s m args below meth c D A nL cells slots Q ws pc ls (.int x :: st) :=
  fun H locs la hP hD hS hl => lv_if_ge M.1 M.2.1 hdg ht (fun q => kt q H locs la hP hD hS hl) (fun q => kf q H locs la hP hD hS hl)
theorem x_icmp_gt (M : CallFix p m c cc nL s args Ts own) {x y : Int32} {off : Int} {tgt : Nat} (hdg : decode cc pc = .ok (.if_icmp .gt off, 3)) (ht : (pc : Int) + off = (tgt : Int))
    (kt : y < x → x_X p l e R s m args below meth c D A nL cells slots Q ws tgt ls st) (kf : ¬ y < x → x_X p l e R s m args below meth c D A nL cells slots Q ws (pc + 3) ls st) : x_X p l e R s m args below meth c D A nL cells slots Q ws pc ls (.int y :: .int x :: st) :=
  fun H locs la hP hD hS hl => lv_icmp_gt M.1 M.2.1 hdg ht (fun q => kt q H locs la hP hD hS hl) (fun q => kf q H locs la hP hD hS hl)
theorem x_if_gt (M : CallFix p m c cc nL s args Ts own) {x : Int32} {off : Int} {tgt : Nat} (hdg : decode cc pc = .ok (.ifCond .gt off, 3)) (ht : (pc : Int) + off = (tgt : Int))
    (kt : 0 < x → x_X p l e R s m args below meth c D A nL cells slots Q ws tgt ls st) (kf : ¬ 0 < x → x_X p l e R s m args below meth c D A nL cells slots Q ws (pc + 3) ls st) : x_X p l e R s m args below meth c D A nL cells slots Q ws pc ls (.int x :: st) :=
  fun H locs la hP hD hS hl => lv_if_gt M.1 M.2.1 hdg ht (fun q => kt q H locs la hP hD hS hl) (fun q => kf q H locs la hP hD hS hl)
theorem x_icmp_le (M : CallFix p m c cc nL s args Ts own) {x y : Int32} {off : Int} {tgt : Nat} (hdg : decode cc pc = .ok (.if_icmp .le off, 3)) (ht : (pc : Int) + off = (tgt : Int))
    (kt : x ≤ y → x_X p l e R s m args below meth c D A nL cells slots Q ws tgt ls st) (kf : ¬ x ≤ y → x_X p l e R s m args below meth c D A nL cells slots Q ws (pc + 3) ls st) : x_X p l e R s m args below meth c D A nL cells slots Q ws pc ls (.int y :: .int x :: st) :=
  fun H locs la hP hD hS hl => lv_icmp_le M.1 M.2.1 hdg ht (fun q => kt q H locs la hP hD hS hl) (fun q => kf q H locs la hP hD hS hl)
theorem x_if_le (M : CallFix p m c cc nL s args Ts own) {x : Int32} {off : Int} {tgt : Nat} (hdg : decode cc pc = .ok (.ifCond .le off, 3)) (ht : (pc : Int) + off = (tgt : Int))
    (kt : x ≤ 0 → x_X p l e R s m args below meth c D A nL cells slots Q ws tgt ls st) (kf : ¬ x ≤ 0 → x_X p l e R s m args below meth c D A nL cells slots Q ws (pc + 3) ls st) : x_X p l e R s m args below meth c D A nL cells slots Q ws pc ls (.int x :: st) :=
  fun H locs la hP hD hS hl => lv_if_le M.1 M.2.1 hdg ht (fun q => kt q H locs la hP hD hS hl) (fun q => kf q H locs la hP hD hS hl)
theorem x_goto (M : CallFix p m c cc nL s args Ts own) {off : Int} {tgt : Nat} (hdg : decode cc pc = .ok (.goto off, 3)) (ht : (pc : Int) + off = (tgt : Int)) (kk : x_X p l e R s m args below meth c D A nL cells slots Q ws tgt ls st) : x_X p l e R s m args below meth c D A nL cells slots Q ws pc ls st :=
  fun H locs la hP hD hS hl => lv_goto M.1 M.2.1 hdg ht (kk H locs la hP hD hS hl)
end XR
end
section
/-! CONTRACTS over a list of cells: x_Ret (it returns v, the cells are w2), x_Thr (it throws an E, nothing has changed); how they are proved and called -/
def x_IO : String := "java/lang/IndexOutOfBoundsException"
def x_IA : String := "java/lang/IllegalArgumentException"
def x_IS : String := "java/lang/IllegalStateException"
def x_dcl (n : String) : Cond := .declares ⟨n, "<init>", "(Ljava/lang/String;)V"⟩
def x_xw (E : String) : List Cond := [Cond.castable E E, x_dcl "java/lang/RuntimeException", x_dcl "java/lang/Exception", x_dcl "java/lang/Throwable"]
def x_tys (kc : Nat → ClassId) : List (ClassId × FieldType) := [(kc 0, .int), (kc 1, .long), (kc 2, .object "GlassLabels$Label"), (kc 3, .array .int)]
/-- what the tables and the JDK's statics say, at a state whose heap is H -/
def x_TB (D : va_G) (kc : Nat → ClassId) (A : Nat → Prop) (U : State) (H : Heap) : Prop :=
  va_K D vwCl (x_tys kc) U ∧ (vx_Zq Bundle.tN "UNASSIGNED_STACK" Bundle.steD A U H ∧ vx_Zq Bundle.tN "SUPPRESSED_SENTINEL" Bundle.listD A U H) ∧
  (va_Nw (.castable x_IO x_IO) U ∧ va_Nw (.castable x_IA x_IA) U ∧ va_Nw (.castable x_IS x_IS) U) ∧
  (va_Nc x_IA x_IO U ∧ va_Nc x_IS x_IO U ∧ va_Nc x_IS x_IA U ∧ va_Nw (x_dcl "java/lang/RuntimeException") U ∧ va_Nw (x_dcl "java/lang/Exception") U ∧ va_Nw (x_dcl "java/lang/Throwable") U ∧ va_AO "GlassLabels$Label" U ∧ va_AOA .int U ∧ va_Nw (.methodLinkNest RX2 36 yX0_init RX2) U) ∧
  ((∃ a, vk_R RX2 115 "no such ware" a U) ∧ (∃ a, vk_R RX2 120 "out of range" a U) ∧ (∃ a, vk_R RX2 54 "no room for another label" a U) ∧ (∃ a, vk_R RX2 123 "no such label" a U) ∧ (∃ a, vk_R RX2 66 "the label is for this ware" a U) ∧ (∃ a, vk_R RX2 80 "the time would be too late" a U))
theorem va_AOA.warm {ty : FieldType} {s U : State} (hW : s.WarmedH U.vm) (h : va_AOA ty s) : va_AOA ty U := by
  have h1 : (Cond.arrayOver (.array ty)).before #[] (s.setVm U.vm) = true := by rw [Cond.arrayOver_setVmC hW.alike]; exact h
  unfold va_AOA
  simp only [Cond.before, Cond.holds, Cond.value, State.vm_setVm] at h1 ⊢
  exact h1
theorem x_TB.moved {D : va_G} {kc : Nat → ClassId} {A : Nat → Prop} {u U : State} {H : Heap} (hW : u.WarmedH U.vm) (h : x_TB D kc A u H) : x_TB D kc A U H := by
  obtain ⟨h1, ⟨h2, h3⟩, ⟨h4, h5, h6⟩, ⟨h7, h8, h9, j1, j2, j3, j4, j5, j6⟩, ⟨⟨a1, k1⟩, ⟨a2, k2⟩, ⟨a3, k3⟩, ⟨a4, k4⟩, ⟨a5, k5⟩, ⟨a6, k6⟩⟩⟩ := h
  exact ⟨h1.moved hW.alike, ⟨vx_Zq.moved hW.alike h2, vx_Zq.moved hW.alike h3⟩, ⟨va_Nw.warmC hW h4, va_Nw.warmC hW h5, va_Nw.warmC hW h6⟩, ⟨va_Nc.moved hW.alike h7, va_Nc.moved hW.alike h8, va_Nc.moved hW.alike h9, va_Nw.warmD hW j1, va_Nw.warmD hW j2, va_Nw.warmD hW j3, va_AO.moved hW.alike j4, va_AOA.warm hW j5, va_Nw.warmM hW j6⟩,
    ⟨⟨a1, vk_R.warm hW k1⟩, ⟨a2, vk_R.warm hW k2⟩, ⟨a3, vk_R.warm hW k3⟩, ⟨a4, vk_R.warm hW k4⟩, ⟨a5, vk_R.warm hW k5⟩, ⟨a6, vk_R.warm hW k6⟩⟩⟩
theorem x_TB.kept {D : va_G} {kc : Nat → ClassId} {A : Nat → Prop} {U : State} {H H1 : Heap} (h : x_TB D kc A U H) (hq : ∀ a : Nat, a < H.size → ¬ A a → H1[a]? = H[a]?) : x_TB D kc A U H1 :=
  ⟨h.1, ⟨h.2.1.1.kept hq, h.2.1.2.kept hq⟩, h.2.2⟩
def x_Pc (D : va_G) (kc : Nat → ClassId) (A : Nat → Prop) (As : List Value) (ws : va_W) : Array Value → State → Prop :=
  va_Pc As (fun U => va_P D vwCl ws U.heap ∧ va_D A ws ∧ x_TB D kc A U U.heap ∧ ∀ q : Nat, U.heap.size ≤ q → A q)
def x_Qc (D : va_G) (A : Nat → Prop) (v : Option Value) (w2 : va_W) : Array Value → State → Outcome → State → Prop := fun _ st o t => (o = .returned v ∧ va_P D vwCl w2 t.heap ∧ va_D A w2) ∧ va_F A st t
def x_XC (D : va_G) (A : Nat → Prop) (E : String) (w2 : va_W) : String → State → State → Prop := fun E' st t => (E' = E ∧ va_P D vwCl w2 t.heap ∧ va_D A w2) ∧ va_F A st t
def x_Ret (l : Launch) (D : va_G) (kc : Nat → ClassId) (A : Nat → Prop) (y : MethodName) (cc : ByteArray) (maxL : Nat) (ret : Option FieldType) (rm : Room) (As : List Value) (ws : va_W) (v : Option Value) (w2 : va_W) : Prop :=
  Met l y (.code y cc maxL ret :: gw) rm (x_Pc D kc A As ws) (x_Qc D A v w2) rm.cells rm.slots A
def x_Thr (l : Launch) (D : va_G) (kc : Nat → ClassId) (A : Nat → Prop) (y : MethodName) (cc : ByteArray) (maxL : Nat) (ret : Option FieldType) (rm : Room) (As : List Value) (ws : va_W) (E : String) : Prop :=
  vx_Met l y (.code y cc maxL ret :: gw) rm (x_Pc D kc A As ws) (fun _ _ _ _ => False) (x_XC D A E ws) rm.cells rm.slots A
/-- a method of ours with a table of handlers, that returns -/
def x_RetW (l : Launch) (D : va_G) (kc : Nat → ClassId) (A : Nat → Prop) (y : MethodName) (cc : ByteArray) (maxL : Nat) (ret : Option FieldType) (hh : List (Nat × Nat × Nat × Nat)) (rm : Room) (As : List Value) (ws : va_W) (v : Option Value) (w2 : va_W) : Prop :=
  Met l y (.codeWith y cc maxL ret hh :: gw) rm (x_Pc D kc A As ws) (x_Qc D A v w2) rm.cells rm.slots A
theorem x_blind {D : va_G} {kc : Nat → ClassId} {A : Nat → Prop} {As : List Value} {ws : va_W} : FrameBlind (x_Pc D kc A As ws) := fun a U g mk q => by
  obtain ⟨h0, h1, h2, h3, h4⟩ := q
  exact ⟨h0, h1, h2, x_TB.moved (u := U) (U := U.calling g mk a) (State.WarmedH.refl U) h3, h4⟩
/-- the cell behind a receiver, and the method's own words -/
def x_MV (y : MethodName) (cc : ByteArray) (maxL : Nat) (ret : Option FieldType) (n : Nat) : Prop :=
  Cond.code y cc maxL ret ∈ gw ∧ Cond.initialized y.cls ∈ gw ∧ (y.cls ≠ "java/lang/invoke/MethodHandle" ∧ y.cls ≠ "java/lang/invoke/VarHandle") ∧ (parseMethodDescriptor y.desc).map (fun d => d.parameters.length) = some n ∧ Cond.instanceMethod y ∈ gw ∧ Cond.selects y.cls y y ∈ gw
def x_MS (y : MethodName) (cc : ByteArray) (maxL : Nat) (ret : Option FieldType) (n : Nat) : Prop :=
  Cond.code y cc maxL ret ∈ gw ∧ Cond.initialized y.cls ∈ gw ∧ (y.cls ≠ "java/lang/invoke/MethodHandle" ∧ y.cls ≠ "java/lang/invoke/VarHandle") ∧ (parseMethodDescriptor y.desc).map (fun d => d.parameters.length) = some n ∧ Cond.static y ∈ gw
def x_MW (y : MethodName) (cc : ByteArray) (maxL : Nat) (ret : Option FieldType) (hh : List (Nat × Nat × Nat × Nat)) (n : Nat) : Prop :=
  Cond.codeWith y cc maxL ret hh ∈ gw ∧ Cond.initialized y.cls ∈ gw ∧ (y.cls ≠ "java/lang/invoke/MethodHandle" ∧ y.cls ≠ "java/lang/invoke/VarHandle") ∧ (parseMethodDescriptor y.desc).map (fun d => d.parameters.length) = some n ∧ Cond.static y ∈ gw
theorem x_gwc {y : MethodName} {cc : ByteArray} {maxL : Nat} {ret : Option FieldType} (h : Cond.code y cc maxL ret ∈ gw) : GoodIn gw (.code y cc maxL ret :: gw) := fun w hw => (List.mem_cons.mp hw).elim (fun e => by rw [e]; exact gw_good _ h) (fun h => gw_good _ h)
theorem x_gwcW {y : MethodName} {cc : ByteArray} {maxL : Nat} {ret : Option FieldType} {hh : List (Nat × Nat × Nat × Nat)} (h : Cond.codeWith y cc maxL ret hh ∈ gw) : GoodIn gw (.codeWith y cc maxL ret hh :: gw) := fun w hw => (List.mem_cons.mp hw).elim (fun e => by rw [e]; exact gw_good _ h) (fun h => gw_good _ h)
section XK
variable {p : Program} {l : Launch} {e : Env} {R : Room} {s : State} {m : MethodId} {args : Array Value} {below : List Frame} {meth : Method} {c : Code} {D : va_G} {A : Nat → Prop} {nL cells slots : Nat} {Q : State → Prop}
variable {cc : ByteArray} {own : String} {ws w2 : va_W} {pc : Nat} {ls : List (Option Value)} {rest : List Value} {kc : Nat → ClassId}
theorem x_cb {y : MethodName} {bytes : ByteArray} {maxL n index : Nat} {ret : Option FieldType} {rm : Room} (hts : ∀ w ∈ gw, w.before args s = true) (h1 : Cond.code y bytes maxL ret ∈ gw) (h2 : Cond.initialized y.cls ∈ gw) (h3 : y.cls ≠ "java/lang/invoke/MethodHandle" ∧ y.cls ≠ "java/lang/invoke/VarHandle") (h4 : (parseMethodDescriptor y.desc).map (fun d => d.parameters.length) = some n)
    (hlk : Cond.methodLink own index y ∈ gw) (hR : rm.frames + 1 ≤ R.frames ∧ 8 + (maxL + 11) + rm.locals ≤ R.locals) : CallB R s args own index y bytes maxL ret (.code y bytes maxL ret :: gw) rm rm.cells rm.slots n :=
  ⟨rfl, rfl, hR.1, hR.2, pay_in hts (x_gwc h1), List.mem_cons_self, hts _ h1, hts _ h2, h3, fun sig h => by rw [h] at h4; exact (Option.some.inj h4).symm, hts _ hlk⟩
theorem x_pre {H : Heap} {locs : List Loc} {As : List Value} (TB : x_TB D kc A s s.heap) (hAA : ∀ q : Nat, s.heap.size ≤ q → A q) (hP : va_P D vwCl ws H) (hD : va_D A ws) (hS : va_S A s.heap H locs) : ∀ U : State, U.heap = H → s.WarmedH U.vm → x_Pc D kc A As ws As.toArray U := fun U hU hW =>
  ⟨rfl, by rw [hU]; exact hP, hD, by rw [hU]; exact (TB.kept hS.2.1).moved hW, fun q h => hAA q (Nat.le_trans hS.1 (by rw [← hU]; exact h))⟩
theorem x_back {H : Heap} {locs : List Loc} {la : Array Slot} {mc ms : Nat} {v : Option Value} {st : List Value} {aa : Array Value} (hS : va_S A s.heap H locs) (hl : x_lh la nL ls) (hr : va_Run p l e R s m args below meth c H locs cells slots mc ms (F0 m pc la st) rest (x_Qc D A v w2 aa) A)
    (kk : x_X p l e R s m args below meth c D A nL (cells + mc) (slots + ms) Q w2 (pc + 3) ls (v.toList ++ rest)) : W p l e R s m args below meth c H locs cells slots Q (F0 m pc la st) := by
  intro T hT X
  obtain ⟨v', st0, t, T', L, h0, X', hL, e1, e2, ⟨⟨hv, hP1, hD1⟩, hF⟩, stp⟩ := hr T hT X
  cases hv
  obtain ⟨k1, k2, k3⟩ := vx_keep h0 e1 hS (fun _ _ h => h) (fun _ h => h) hL hF
  obtain ⟨t2, a1, b1⟩ := kk T'.heap (locs ++ L) la (by rw [e1]; exact hP1) hD1 k3 hl T' rfl X'
  exact ⟨t2, stp t2 a1, b1⟩
/-- a method of an object, called: it returns -/
theorem x_callV (M : CallFix p m c cc nL s args gw own) (TB : x_TB D kc A s s.heap) (hAA : ∀ q : Nat, s.heap.size ≤ q → A q) {y : MethodName} {bytes : ByteArray} {maxL index b q0 ci : Nat} {ret : Option FieldType} {rm : Room} {st : List Value} {As : List Value} {v : Option Value} {fs : List Value} {qv : vw_C} (mv : x_MV y bytes maxL ret As.length)
    (hlk : Cond.methodLink own index y ∈ gw) (hdg : decode cc pc = .ok (.invokevirtual index, 3)) (hM : x_Ret l D kc A y bytes maxL ret rm (.ref b :: As) ws v w2) (hst0 : As.reverse ++ .ref b :: rest = st) (he : ws[q0]? = some (b, .inr (ci, fs))) (hc : vwCl[ci]? = some qv) (hC : qv.1 = y.cls)
    (hR : rm.frames + 1 ≤ R.frames ∧ 8 + (maxL + 11) + rm.locals ≤ R.locals) (hcs : cells + rm.cells ≤ R.cells ∧ slots + rm.slots ≤ R.slots) (hst : (rest.map fun v => v.category).sum ≤ 8)
    (kk : x_X p l e R s m args below meth c D A nL (cells + rm.cells) (slots + rm.slots) Q w2 (pc + 3) ls (v.toList ++ rest)) : x_X p l e R s m args below meth c D A nL cells slots Q ws pc ls st := fun H locs la hP hD hS hl => by
  subst hst0
  obtain ⟨h1, h2, h3, h4, h5, h6⟩ := mv
  have hrec := va_recv TB.1 hP hc he
  rw [hC] at hrec
  exact x_back hS hl (va_runV (C := y.cls) (g := F0 m pc la (As.reverse ++ .ref b :: rest)) (rest := rest) M hM ⟨x_cb M.2.2.2.2 h1 h2 h3 h4 hlk hR, M.2.2.2.2 _ h5, M.2.2.2.2 _ h6⟩ ⟨x_blind, hrec, x_pre (As := .ref b :: As) TB hAA hP hD hS⟩ rfl rfl hl.1 rfl (lv_room hst) hdg hcs) kk
/-- a static method, called: it returns -/
theorem x_callS (M : CallFix p m c cc nL s args gw own) (TB : x_TB D kc A s s.heap) (hAA : ∀ q : Nat, s.heap.size ≤ q → A q) {y : MethodName} {bytes : ByteArray} {maxL index : Nat} {ret : Option FieldType} {rm : Room} {st : List Value} {As : List Value} {v : Option Value} (mv : x_MS y bytes maxL ret As.length)
    (hlk : Cond.methodLink own index y ∈ gw) (hdg : decode cc pc = .ok (.invokestatic index, 3)) (hM : x_Ret l D kc A y bytes maxL ret rm As ws v w2) (hst0 : As.reverse ++ rest = st)
    (hR : rm.frames + 1 ≤ R.frames ∧ 8 + (maxL + 11) + rm.locals ≤ R.locals) (hcs : cells + rm.cells ≤ R.cells ∧ slots + rm.slots ≤ R.slots) (hst : (rest.map fun v => v.category).sum ≤ 8)
    (kk : x_X p l e R s m args below meth c D A nL (cells + rm.cells) (slots + rm.slots) Q w2 (pc + 3) ls (v.toList ++ rest)) : x_X p l e R s m args below meth c D A nL cells slots Q ws pc ls st := fun H locs la hP hD hS hl => by
  subst hst0
  obtain ⟨h1, h2, h3, h4, h5⟩ := mv
  exact x_back hS hl (va_runS (g := F0 m pc la (As.reverse ++ rest)) (rest := rest) M hM ⟨x_cb M.2.2.2.2 h1 h2 h3 h4 hlk hR, M.2.2.2.2 _ h5⟩ ⟨x_blind, x_pre (As := As) TB hAA hP hD hS⟩ rfl rfl hl.1 rfl (lv_room hst) hdg hcs) kk
/-- a static method with handlers of its own, called: it returns -/
theorem x_callW (M : CallFix p m c cc nL s args gw own) (TB : x_TB D kc A s s.heap) (hAA : ∀ q : Nat, s.heap.size ≤ q → A q) {y : MethodName} {bytes : ByteArray} {maxL index : Nat} {ret : Option FieldType} {hh : List (Nat × Nat × Nat × Nat)} {rm : Room} {st : List Value} {As : List Value} {v : Option Value} (mv : x_MW y bytes maxL ret hh As.length)
    (hlk : Cond.methodLink own index y ∈ gw) (hdg : decode cc pc = .ok (.invokestatic index, 3)) (hM : x_RetW l D kc A y bytes maxL ret hh rm As ws v w2) (hst0 : As.reverse ++ rest = st)
    (hR : rm.frames + 1 ≤ R.frames ∧ 8 + (maxL + 11) + rm.locals ≤ R.locals) (hcs : cells + rm.cells ≤ R.cells ∧ slots + rm.slots ≤ R.slots) (hst : (rest.map fun v => v.category).sum ≤ 8)
    (kk : x_X p l e R s m args below meth c D A nL (cells + rm.cells) (slots + rm.slots) Q w2 (pc + 3) ls (v.toList ++ rest)) : x_X p l e R s m args below meth c D A nL cells slots Q ws pc ls st := fun H locs la hP hD hS hl => by
  subst hst0
  obtain ⟨h1, h2, h3, h4, h5⟩ := mv
  have cw : vx_CSW R s args own index y bytes maxL ret hh (.codeWith y bytes maxL ret hh :: gw) rm rm.cells rm.slots As.length :=
    ⟨⟨rfl, rfl, hR.1, hR.2, pay_in M.2.2.2.2 (x_gwcW h1), List.mem_cons_self⟩, M.2.2.2.2 _ h1, M.2.2.2.2 _ h2, h3, fun sig h => by rw [h] at h4; exact (Option.some.inj h4).symm, M.2.2.2.2 _ hlk, M.2.2.2.2 _ h5⟩
  exact x_back hS hl (vx_runSW (g := F0 m pc la (As.reverse ++ rest)) (rest := rest) M hM cw ⟨x_blind, x_pre (As := As) TB hAA hP hD hS⟩ rfl rfl hl.1 rfl (lv_room hst) hdg hcs) kk
/-- something thrown over this frame -/
def x_T (p : Program) (l : Launch) (e : Env) (R : Room) (s : State) (m : MethodId) (args : Array Value) (below : List Frame) (meth : Method) (c : Code) (D : va_G) (A : Nat → Prop) (nL cells slots : Nat) (Q : State → Prop) (ws : va_W) (pc : Nat) (ls : List (Option Value)) (rest : List Value) (E : String) : Prop :=
  ∀ (H : Heap) (locs : List Loc) (la : Array Slot) (q : Addr) (ce : Cell), va_P D vwCl ws H → va_D A ws → va_S A s.heap H locs → x_lh la nL ls → H[q]? = some ce → ce.vm = .none → s.vm.findClass E = some ce.cls → vx_W p l e R s m args below meth c H locs cells slots Q (F0 m pc la rest) q
theorem x_backT {H : Heap} {locs : List Loc} {la : Array Slot} {mc ms : Nat} {st : List Value} {aa : Array Value} {E : String} (hS : va_S A s.heap H locs) (hl : x_lh la nL ls) (hr : vx_Run p l e R s m args below meth c H locs cells slots mc ms (F0 m pc la st) rest ((fun _ _ _ _ => False : Array Value → State → Outcome → State → Prop) aa) (x_XC D A E w2) A)
    (kk : x_T p l e R s m args below meth c D A nL (cells + mc) (slots + ms) Q w2 pc ls rest E) : W p l e R s m args below meth c H locs cells slots Q (F0 m pc la st) := by
  intro T hT X
  rcases hr T hT X with ⟨v, st₀, t, T', L, h0, X', hL, e1, e2, hf, -⟩ | ⟨q, st₀, t, T', L, E', ce, h0, X', hL, e1, e2, ⟨⟨hE, hP1, hD1⟩, hF⟩, hce, hcv, hcl, stp⟩
  · exact hf.elim
  · obtain ⟨k1, k2, k3⟩ := vx_keep h0 e1 hS (fun _ _ h => h) (fun _ h => h) hL hF
    subst hE
    obtain ⟨t2, a1, b1⟩ := kk T'.heap (locs ++ L) la q ce (by rw [e1]; exact hP1) hD1 k3 hl (by rw [e1]; exact hce) hcv hcl T' rfl X'
    exact ⟨t2, stp.trans a1, b1⟩
/-- a method of an object, called: it throws -/
theorem x_callVT (M : CallFix p m c cc nL s args gw own) (TB : x_TB D kc A s s.heap) (hAA : ∀ q : Nat, s.heap.size ≤ q → A q) {y : MethodName} {bytes : ByteArray} {maxL index b q0 ci : Nat} {ret : Option FieldType} {rm : Room} {st : List Value} {As : List Value} {E : String} {fs : List Value} {qv : vw_C} (mv : x_MV y bytes maxL ret As.length)
    (hlk : Cond.methodLink own index y ∈ gw) (hdg : decode cc pc = .ok (.invokevirtual index, 3)) (hM : x_Thr l D kc A y bytes maxL ret rm (.ref b :: As) ws E) (hst0 : As.reverse ++ .ref b :: rest = st) (he : ws[q0]? = some (b, .inr (ci, fs))) (hc : vwCl[ci]? = some qv) (hC : qv.1 = y.cls)
    (hR : rm.frames + 1 ≤ R.frames ∧ 8 + (maxL + 11) + rm.locals ≤ R.locals) (hcs : cells + rm.cells ≤ R.cells ∧ slots + rm.slots ≤ R.slots) (hst : (rest.map fun v => v.category).sum ≤ 8)
    (kk : x_T p l e R s m args below meth c D A nL (cells + rm.cells) (slots + rm.slots) Q ws pc ls rest E) : x_X p l e R s m args below meth c D A nL cells slots Q ws pc ls st := fun H locs la hP hD hS hl => by
  subst hst0
  obtain ⟨h1, h2, h3, h4, h5, h6⟩ := mv
  have hrec := va_recv TB.1 hP hc he
  rw [hC] at hrec
  exact x_backT (aa := #[]) hS hl (vx_runV (C := y.cls) (g := F0 m pc la (As.reverse ++ .ref b :: rest)) (rest := rest) M hM ⟨x_cb M.2.2.2.2 h1 h2 h3 h4 hlk hR, M.2.2.2.2 _ h5, M.2.2.2.2 _ h6⟩ ⟨x_blind, hrec, x_pre (As := .ref b :: As) TB hAA hP hD hS⟩ rfl rfl hl.1 rfl (lv_room hst) hdg hcs) kk
/-- a static method, called: it throws -/
theorem x_callST (M : CallFix p m c cc nL s args gw own) (TB : x_TB D kc A s s.heap) (hAA : ∀ q : Nat, s.heap.size ≤ q → A q) {y : MethodName} {bytes : ByteArray} {maxL index : Nat} {ret : Option FieldType} {rm : Room} {st : List Value} {As : List Value} {E : String} (mv : x_MS y bytes maxL ret As.length)
    (hlk : Cond.methodLink own index y ∈ gw) (hdg : decode cc pc = .ok (.invokestatic index, 3)) (hM : x_Thr l D kc A y bytes maxL ret rm As ws E) (hst0 : As.reverse ++ rest = st)
    (hR : rm.frames + 1 ≤ R.frames ∧ 8 + (maxL + 11) + rm.locals ≤ R.locals) (hcs : cells + rm.cells ≤ R.cells ∧ slots + rm.slots ≤ R.slots) (hst : (rest.map fun v => v.category).sum ≤ 8)
    (kk : x_T p l e R s m args below meth c D A nL (cells + rm.cells) (slots + rm.slots) Q ws pc ls rest E) : x_X p l e R s m args below meth c D A nL cells slots Q ws pc ls st := fun H locs la hP hD hS hl => by
  subst hst0
  obtain ⟨h1, h2, h3, h4, h5⟩ := mv
  exact x_backT (aa := #[]) hS hl (vx_runS (g := F0 m pc la (As.reverse ++ rest)) (rest := rest) M hM ⟨x_cb M.2.2.2.2 h1 h2 h3 h4 hlk hR, M.2.2.2.2 _ h5⟩ ⟨x_blind, x_pre (As := As) TB hAA hP hD hS⟩ rfl rfl hl.1 rfl (lv_room hst) hdg hcs) kk
/-- thrown on to the caller, out of a method without handlers -/
theorem x_Tout {E : String} {mc ms : Nat} {Qc : Array Value → State → Outcome → State → Prop} (hno : ∀ x ∈ c.exceptionTable.toList, False) (hlocks : meth.locks = false) (hc : cells ≤ mc) (hs : slots ≤ ms) :
    x_T p l e R s m args below meth c D A nL cells slots (vx_MQ below Qc (x_XC D A E ws) args s mc ms A) ws pc ls rest E := fun H locs la q ce hP hD hS hl hce hcv hcl =>
  vx_out (fun x hx => (hno x hx).elim) hlocks hce hcv hcl (fun t ht _ => ⟨⟨rfl, by rw [ht]; exact hP, hD⟩, hS.F ht⟩) hS.2.2 hc hs
/-- thrown, and caught by this method's row x -/
theorem x_Tcatch {E name : String} (M : CallFix p m c cc nL s args gw own) (pre : List ExceptionTableEntry) (x : ExceptionTableEntry) (suf : List ExceptionTableEntry) (hsplit : c.exceptionTable.toList = pre ++ x :: suf)
    (hpass : ∀ z ∈ pre, covers z pc = false ∨ (z.catchType ≠ 0 ∧ ∃ nm : String, (Cond.classLink own z.catchType nm).before args s = true ∧ va_Nc E nm s)) (hx : covers x pc = true) (h0 : x.catchType ≠ 0)
    (hlink : (Cond.classLink own x.catchType name).before args s = true) (hcast : va_Nw (.castable E name) s)
    (kk : ∀ q : Nat, x_X p l e R s m args below meth c D A nL cells slots Q ws x.handlerPc ls [.ref q]) : x_T p l e R s m args below meth c D A nL cells slots Q ws pc ls rest E := fun H locs la q ce hP hD hS hl hce hcv hcl =>
  vx_catch M.2.2.2.1 pre x suf hsplit hpass hx h0 hlink (va_Nw.use rfl hcast) hce hcv hcl (kk q H locs la hP hD hS hl)
/-- throw new E("text"), out of a method without handlers -/
theorem x_throw (M : CallFix p m c cc nL s args gw own) (TB : x_TB D kc A s s.heap) (hl0 : l.stackTraces = false) {E text : String} {ik is ic mc ms : Nat} {Qc : Array Value → State → Outcome → State → Prop} (hno : ∀ x ∈ c.exceptionTable.toList, False) (hlocks : meth.locks = false)
    (hcls : Bundle.fit E = true) (hk : Cond.classLink own ik E ∈ gw) (hini : Cond.initialized E ∈ gw) (hstr : ∃ a, vk_R own is text a s) (hcast : va_Nw (.castable E E) s)
    (hat1 : ∀ w ∈ (vx_atS own ic E ["java/lang/RuntimeException", "java/lang/Exception"]).filter goodWord, w ∈ gw) (hat2 : ∀ w ∈ (vx_atS own ic E ["java/lang/RuntimeException", "java/lang/Exception"]).filter (fun w => !goodWord w), w ∈ x_xw E)
    (hgood : ∀ w ∈ Cond.classLink own ik E :: Cond.initialized E :: vx_atS own ic E ["java/lang/RuntimeException", "java/lang/Exception"], vx_ot w = true)
    (d0 : decode cc pc = .ok (.new ik, 3)) (d3 : decode cc (pc + 3) = .ok (.dup, 1)) (d4 : decode cc (pc + 4) = .ok (.ldc is, 2)) (d6 : decode cc (pc + 6) = .ok (.invokespecial ic, 3)) (d9 : decode cc (pc + 9) = .ok (.athrow, 1))
    (hR : 5 < R.frames ∧ 82 ≤ R.locals) (hcs : cells + 1 ≤ R.cells ∧ slots + 6 ≤ R.slots) (hc : cells + 1 ≤ mc ∧ slots + 6 ≤ ms) :
    x_X p l e R s m args below meth c D A nL cells slots (vx_MQ below Qc (x_XC D A E ws) args s mc ms A) ws pc ls [] := fun H locs la hP hD hS hl => by
  obtain ⟨sa, hsa⟩ := hstr
  obtain ⟨hx, hb, hml, hown, hts⟩ := M
  refine vx_throwS (A := A) (own := own) (cls := E) (text := text) (names := ["java/lang/RuntimeException", "java/lang/Exception"]) (ik := ik) (is := is) (ic := ic) (sa := sa) hx hb hl0 hown hcls (by decide +kernel) (hts _ hk) (hts _ hini) hsa
    (vx_hat (B := x_xw E) (fun w hw => hts w (hat1 w hw)) hat2 (vx_c (va_Nw.use rfl hcast) (vx_c (va_Nw.use rfl TB.2.2.2.1.2.2.2.1) (vx_c (va_Nw.use rfl TB.2.2.2.1.2.2.2.2.1) (vx_c (va_Nw.use rfl TB.2.2.2.1.2.2.2.2.2.1) vx_n))))) hgood TB.2.1.1 TB.2.1.2 hS (hl.1.trans hml.symm) d0 d3 d4 d6 d9 (fun x hx => (hno x hx).elim)
    (by show 2 + 3 < R.frames; omega) (by show 0 + (13 * (2 + 1) + 43) ≤ R.locals; omega) hcs.1 hcs.2 hlocks (fun t _ h1 h2 => ⟨⟨rfl, hP.kept (fun k q hq => h2 q.1 ((hP k q hq).lt)), hD⟩, ?_⟩) hS.2.2 hc.1 hc.2
  exact ⟨Nat.le_trans hS.1 h1, fun q g1 g2 => (h2 q (Nat.lt_of_lt_of_le g1 hS.1)).trans (hS.2.1 q g1 g2)⟩
-- returns
theorem x_iret {mc ms : Nat} {x : Int32} {v : Option Value} (M : CallFix p m c cc nL s args gw own) (hr : meth.sig.returnType = some .int) (hlocks : meth.locks = false) (hdg : decode cc pc = .ok (.ireturn, 1)) (hc : cells ≤ mc ∧ slots ≤ ms) (hv : some (.int x) = v) (hw : ws = w2) :
    x_X p l e R s m args below meth c D A nL cells slots (MQ below (x_Qc D A v w2) args s mc ms A) ws pc ls [.int x] := fun H locs la hP hD hS hl => by
  subst hv; subst hw
  exact W.widen hc.1 hc.2 (W.iret M.1 M.2.1 hr (fun t ht _ => ⟨⟨rfl, by rw [ht]; exact hP, hD⟩, hS.F ht⟩) hS.2.2 hdg hlocks)
theorem x_zret {mc ms : Nat} {x : Int32} {v : Option Value} (M : CallFix p m c cc nL s args gw own) (hr : meth.sig.returnType = some .boolean) (hlocks : meth.locks = false) (hdg : decode cc pc = .ok (.ireturn, 1)) (hc : cells ≤ mc ∧ slots ≤ ms) (hn : x = 0 ∨ x = 1) (hv : some (.int x) = v) (hw : ws = w2) :
    x_X p l e R s m args below meth c D A nL cells slots (MQ below (x_Qc D A v w2) args s mc ms A) ws pc ls [.int x] := fun H locs la hP hD hS hl => by
  subst hv; subst hw
  exact W.widen hc.1 hc.2 (W.zret M.1 M.2.1 hr (by rcases hn with rfl | rfl <;> decide) (fun t ht _ => ⟨⟨rfl, by rw [ht]; exact hP, hD⟩, hS.F ht⟩) hS.2.2 hdg hlocks)
theorem x_aret {mc ms : Nat} {a : Nat} {n : String} {v : Option Value} (M : CallFix p m c cc nL s args gw own) (hr : meth.sig.returnType = some (.object n)) (hlocks : meth.locks = false) (hdg : decode cc pc = .ok (.areturn, 1)) (hc : cells ≤ mc ∧ slots ≤ ms) (hv : some (.ref a) = v) (hw : ws = w2) :
    x_X p l e R s m args below meth c D A nL cells slots (MQ below (x_Qc D A v w2) args s mc ms A) ws pc ls [.ref a] := fun H locs la hP hD hS hl => by
  subst hv; subst hw
  exact W.widen hc.1 hc.2 (W.aret M.1 M.2.1 hr (Or.inl ⟨n, rfl⟩) (Or.inr ⟨a, rfl⟩) (fun t ht _ => ⟨⟨rfl, by rw [ht]; exact hP, hD⟩, hS.F ht⟩) hS.2.2 hdg hlocks)
theorem x_vret {mc ms : Nat} {v : Option Value} (M : CallFix p m c cc nL s args gw own) (hr : meth.sig.returnType = none) (hlocks : meth.locks = false) (hdg : decode cc pc = .ok (.return_, 1)) (hc : cells ≤ mc ∧ slots ≤ ms) (hv : none = v) (hw : ws = w2) :
    x_X p l e R s m args below meth c D A nL cells slots (MQ below (x_Qc D A v w2) args s mc ms A) ws pc ls [] := fun H locs la hP hD hS hl => by
  subst hv; subst hw
  exact W.widen hc.1 hc.2 (W.vret M.1 M.2.1 hr (fun t ht _ => ⟨⟨rfl, by rw [ht]; exact hP, hD⟩, hS.F ht⟩) hS.2.2 hdg hlocks)
end XK
section XE
variable {l : Launch} {D : va_G} {kc : Nat → ClassId} {A : Nat → Prop} {y : MethodName} {cc : ByteArray} {maxL : Nat} {ret : Option FieldType} {rm : Room} {As : List Value} {ws w2 : va_W} {v : Option Value}
/-- a contract that returns, from the walk of its body -/
theorem x_ret_of (own : String) (hy : plainName y.cls = true) (ho : y.cls = own) (ls0 : List (Option Value)) (hn : As.length ≤ maxL) (hcat0 : As.all (fun v => v.category == 1) = true) (h0 : As.map some ++ List.replicate (maxL - As.length) none = ls0)
    (body : ∀ (p : Program) (e : Env) (s : State) (m : MethodId) (args : Array Value) (below : List Frame) (meth : Method) (c : Code), CallFix p m c cc maxL s args gw own → meth.sig.returnType = ret → meth.locks = false → meth.name = y.name → x_TB D kc A s s.heap → (∀ q : Nat, s.heap.size ≤ q → A q) →
      x_X p l e rm s m args below meth c D A maxL 0 0 (MQ below (x_Qc D A v w2) args s rm.cells rm.slots A) ws 0 ls0 []) : x_Ret l D kc A y cc maxL ret rm As ws v w2 := by
  refine Met.ofW (cc := cc) (maxL := maxL) (ret := ret) hy rfl ?_
  intro p e s m args below meth c s₁ B hml hv
  obtain ⟨rfl, hP, hD, hT, hA⟩ := hv
  have hts := atoms_spec (ws := .code y cc maxL ret :: gw) B.pre
  have hown : s.vm.findClass own = some m.cls := by rw [← ho]; exact findClass_of_methodNamed B.named
  have k := body p e s m As.toArray below meth c ⟨B.exec, B.bytes, hml, hown, fun w h => hts w (List.mem_cons_of_mem _ h)⟩ B.returns B.notSynchronized (name_of_methodNamed B.named B.method).1 hT hA
  rw [lg_entry_eq]
  exact k s.heap [] _ hP hD va_S.rf (by rw [← h0]; exact x_lh_entry As hn (fun v hv => by have := List.all_eq_true.mp hcat0 v hv; simpa using this))
theorem x_thr_of {E : String} (own : String) (hy : plainName y.cls = true) (ho : y.cls = own) (ls0 : List (Option Value)) (hn : As.length ≤ maxL) (hcat0 : As.all (fun v => v.category == 1) = true) (h0 : As.map some ++ List.replicate (maxL - As.length) none = ls0)
    (body : ∀ (p : Program) (e : Env) (s : State) (m : MethodId) (args : Array Value) (below : List Frame) (meth : Method) (c : Code), CallFix p m c cc maxL s args gw own → meth.sig.returnType = ret → meth.locks = false → (∀ x ∈ c.exceptionTable.toList, False) → x_TB D kc A s s.heap → (∀ q : Nat, s.heap.size ≤ q → A q) →
      x_X p l e rm s m args below meth c D A maxL 0 0 (vx_MQ below (fun _ _ _ _ => False) (x_XC D A E ws) args s rm.cells rm.slots A) ws 0 ls0 []) : x_Thr l D kc A y cc maxL ret rm As ws E := by
  refine vx_ofW (cc := cc) (maxL := maxL) (ret := ret) hy rfl ?_
  intro p e s m args below meth c s₁ B hml hno hv
  obtain ⟨rfl, hP, hD, hT, hA⟩ := hv
  have hts := atoms_spec (ws := .code y cc maxL ret :: gw) B.pre
  have hown : s.vm.findClass own = some m.cls := by rw [← ho]; exact findClass_of_methodNamed B.named
  have k := body p e s m As.toArray below meth c ⟨B.exec, B.bytes, hml, hown, fun w h => hts w (List.mem_cons_of_mem _ h)⟩ B.returns B.notSynchronized hno hT hA
  rw [lg_entry_eq]
  exact k s.heap [] _ hP hD va_S.rf (by rw [← h0]; exact x_lh_entry As hn (fun v hv => by have := List.all_eq_true.mp hcat0 v hv; simpa using this))
theorem x_retW_of {hh : List (Nat × Nat × Nat × Nat)} (own : String) (hy : plainName y.cls = true) (ho : y.cls = own) (ls0 : List (Option Value)) (hn : As.length ≤ maxL) (hcat0 : As.all (fun v => v.category == 1) = true) (h0 : As.map some ++ List.replicate (maxL - As.length) none = ls0)
    (body : ∀ (p : Program) (e : Env) (s : State) (m : MethodId) (args : Array Value) (below : List Frame) (meth : Method) (c : Code), CallFix p m c cc maxL s args gw own → meth.sig.returnType = ret → meth.locks = false → c.exceptionTable.toList = tableOf hh → x_TB D kc A s s.heap → (∀ q : Nat, s.heap.size ≤ q → A q) →
      x_X p l e rm s m args below meth c D A maxL 0 0 (MQ below (x_Qc D A v w2) args s rm.cells rm.slots A) ws 0 ls0 []) : x_RetW l D kc A y cc maxL ret hh rm As ws v w2 := by
  refine va_MetW (cc := cc) (maxL := maxL) (ret := ret) (hh := hh) hy rfl ?_
  intro p e s m args below meth c s₁ B hml hv
  obtain ⟨rfl, hP, hD, hT, hA⟩ := hv
  have hts := atoms_spec (ws := .codeWith y cc maxL ret hh :: gw) B.pre
  have hown : s.vm.findClass own = some m.cls := by rw [← ho]; exact findClass_of_methodNamed B.named
  have k := body p e s m As.toArray below meth c ⟨B.exec, B.bytes, hml, hown, fun w h => hts w (List.mem_cons_of_mem _ h)⟩ B.returns B.notSynchronized (vx_table (x := y) B (hts _ List.mem_cons_self)) hT hA
  rw [lg_entry_eq]
  exact k s.heap [] _ hP hD va_S.rf (by rw [← h0]; exact x_lh_entry As hn (fun v hv => by have := List.all_eq_true.mp hcat0 v hv; simpa using this))
end XE
end
section
/-! rows that read and write the cells of a list ws; then the world of the claim: its cells, what each holds (ct), the list (wl), and a row for each field and array of it -/
theorem gwl_X0 : ∀ w ∈ u_ws RX0 TX0 8, w ∈ gw := by
  intro w hw
  obtain ⟨k, hk, rfl⟩ := List.mem_map.mp hw
  have hk := List.mem_range.mp hk
  match k, hk with
  | 0, _ => exact kw_79
  | 1, _ => exact kw_81
  | 2, _ => exact kw_83
  | 3, _ => exact kw_85
  | 4, _ => exact kw_87
  | 5, _ => exact kw_89
  | 6, _ => exact kw_91
  | 7, _ => exact kw_93
  | k + 8, h => exact absurd h (by omega)
theorem gwl_X1 : ∀ w ∈ u_ws RX1 TX1 2, w ∈ gw := by
  intro w hw
  obtain ⟨k, hk, rfl⟩ := List.mem_map.mp hw
  have hk := List.mem_range.mp hk
  match k, hk with
  | 0, _ => exact kw_52
  | 1, _ => exact kw_54
  | k + 2, h => exact absurd h (by omega)
theorem gwl_X2 : ∀ w ∈ u_ws RX2 TX2 6, w ∈ gw := by
  intro w hw
  obtain ⟨k, hk, rfl⟩ := List.mem_map.mp hw
  have hk := List.mem_range.mp hk
  match k, hk with
  | 0, _ => exact kw_102
  | 1, _ => exact kw_104
  | 2, _ => exact kw_106
  | 3, _ => exact kw_108
  | 4, _ => exact kw_110
  | 5, _ => exact kw_112
  | k + 6, h => exact absurd h (by omega)
theorem gwl_X3 : ∀ w ∈ u_ws RX3 TX3 15, w ∈ gw := by
  intro w hw
  obtain ⟨k, hk, rfl⟩ := List.mem_map.mp hw
  have hk := List.mem_range.mp hk
  match k, hk with
  | 0, _ => exact kw_430
  | 1, _ => exact kw_432
  | 2, _ => exact kw_434
  | 3, _ => exact kw_436
  | 4, _ => exact kw_438
  | 5, _ => exact kw_440
  | 6, _ => exact kw_442
  | 7, _ => exact kw_444
  | 8, _ => exact kw_446
  | 9, _ => exact kw_448
  | 10, _ => exact kw_450
  | 11, _ => exact kw_452
  | 12, _ => exact kw_454
  | 13, _ => exact kw_456
  | 14, _ => exact kw_458
  | k + 15, h => exact absurd h (by omega)
section XH
variable {p : Program} {l : Launch} {e : Env} {R : Room} {s : State} {m : MethodId} {args : Array Value} {below : List Frame} {meth : Method} {c : Code} {D : va_G} {A : Nat → Prop} {nL cells slots : Nat} {Q : State → Prop}
variable {cc : ByteArray} {own : String} {ws w2 : va_W} {pc : Nat} {ls : List (Option Value)} {st : List Value} {kc : Nat → ClassId}
theorem x_get0 (M : CallFix p m c cc nL s args gw own) (TB : x_TB D kc A s s.heap) (k : Nat) {a q0 index : Nat} {fs : List Value} {v : Value} (he : ws[q0]? = some (a, .inr (0, fs))) (hk : k < 8) (hv : fs[k]? = some v) (hlk : Cond.fieldLink own index (TX0 k).1 (TX0 k).2.1 (TX0 k).2.2.1 ∈ gw) (hdg : decode cc pc = .ok (.getfield index, 3))
    (kk : x_X p l e R s m args below meth c D A nL cells slots Q ws (pc + 3) ls (v :: st)) : x_X p l e R s m args below meth c D A nL cells slots Q ws pc ls (.ref a :: st) := fun H locs la hP hD hS hl =>
  va_get (D := D) (ci := 0) (v := v) (C := RX0) (T := TX0) (N := 8) M.1 M.2.1 M.2.2.2.2 gwl_X0 M.2.2.2.1 TB.1 hP q0 he rfl k hk (M.2.2.2.2 _ hlk) (fun _ h9 => h9) hv hdg (kk H locs la hP hD hS hl)
theorem x_put0 (M : CallFix p m c cc nL s args gw own) (TB : x_TB D kc A s s.heap) (k : Nat) {a q0 index : Nat} {fs : List Value} {x : Int32} (he : ws[q0]? = some (a, .inr (0, fs))) (hk : k < 8) (hl : k < fs.length) (hfin : (TX0 k).2.2.2 = false) (hd : parseFieldDescriptor (TX0 k).2.2.1 = some .int) (hlk : Cond.fieldLink own index (TX0 k).1 (TX0 k).2.1 (TX0 k).2.2.1 ∈ gw) (hdg : decode cc pc = .ok (.putfield index, 3))
    (kk : x_X p l e R s m args below meth c D A nL cells slots Q (ws.set q0 (a, .inr (0, fs.set k (.int x)))) (pc + 3) ls st) : x_X p l e R s m args below meth c D A nL cells slots Q ws pc ls (.int x :: .ref a :: st) := fun H locs la hP hD hS hlh =>
  va_put (D := D) (ci := 0) (v := .int x) (ty := .int) (C := RX0) (T := TX0) (N := 8) M.1 M.2.1 M.2.2.2.2 gwl_X0 tyX0 tyX0_ok nmX0 M.2.2.2.1 TB.1 hP hD hS q0 he rfl k hk (M.2.2.2.2 _ hlk) (fun _ h9 => h9) hfin hd rfl rfl hl hdg (fun H1 locs1 hP1 hD1 hS1 => kk H1 locs1 la hP1 hD1 hS1 hlh)
theorem x_get1 (M : CallFix p m c cc nL s args gw own) (TB : x_TB D kc A s s.heap) (k : Nat) {a q0 index : Nat} {fs : List Value} {v : Value} (he : ws[q0]? = some (a, .inr (1, fs))) (hk : k < 2) (hv : fs[k]? = some v) (hlk : Cond.fieldLink own index (TX1 k).1 (TX1 k).2.1 (TX1 k).2.2.1 ∈ gw) (hdg : decode cc pc = .ok (.getfield index, 3))
    (kk : x_X p l e R s m args below meth c D A nL cells slots Q ws (pc + 3) ls (v :: st)) : x_X p l e R s m args below meth c D A nL cells slots Q ws pc ls (.ref a :: st) := fun H locs la hP hD hS hl =>
  va_get (D := D) (ci := 1) (v := v) (C := RX1) (T := TX1) (N := 2) M.1 M.2.1 M.2.2.2.2 gwl_X1 M.2.2.2.1 TB.1 hP q0 he rfl k hk (M.2.2.2.2 _ hlk) (fun _ h9 => h9) hv hdg (kk H locs la hP hD hS hl)
theorem x_get2 (M : CallFix p m c cc nL s args gw own) (TB : x_TB D kc A s s.heap) (k : Nat) {a q0 index : Nat} {fs : List Value} {v : Value} (he : ws[q0]? = some (a, .inr (2, fs))) (hk : k < 6) (hv : fs[k]? = some v) (hlk : Cond.fieldLink own index (TX2 k).1 (TX2 k).2.1 (TX2 k).2.2.1 ∈ gw) (hdg : decode cc pc = .ok (.getfield index, 3))
    (kk : x_X p l e R s m args below meth c D A nL cells slots Q ws (pc + 3) ls (v :: st)) : x_X p l e R s m args below meth c D A nL cells slots Q ws pc ls (.ref a :: st) := fun H locs la hP hD hS hl =>
  va_get (D := D) (ci := 2) (v := v) (C := RX2) (T := TX2) (N := 6) M.1 M.2.1 M.2.2.2.2 gwl_X2 M.2.2.2.1 TB.1 hP q0 he rfl k hk (M.2.2.2.2 _ hlk) (fun _ h9 => h9) hv hdg (kk H locs la hP hD hS hl)
theorem x_put2 (M : CallFix p m c cc nL s args gw own) (TB : x_TB D kc A s s.heap) (k : Nat) {a q0 index : Nat} {fs : List Value} {x : Int32} (he : ws[q0]? = some (a, .inr (2, fs))) (hk : k < 6) (hl : k < fs.length) (hfin : (TX2 k).2.2.2 = false) (hd : parseFieldDescriptor (TX2 k).2.2.1 = some .int) (hlk : Cond.fieldLink own index (TX2 k).1 (TX2 k).2.1 (TX2 k).2.2.1 ∈ gw) (hdg : decode cc pc = .ok (.putfield index, 3))
    (kk : x_X p l e R s m args below meth c D A nL cells slots Q (ws.set q0 (a, .inr (2, fs.set k (.int x)))) (pc + 3) ls st) : x_X p l e R s m args below meth c D A nL cells slots Q ws pc ls (.int x :: .ref a :: st) := fun H locs la hP hD hS hlh =>
  va_put (D := D) (ci := 2) (v := .int x) (ty := .int) (C := RX2) (T := TX2) (N := 6) M.1 M.2.1 M.2.2.2.2 gwl_X2 tyX2 tyX2_ok nmX2 M.2.2.2.1 TB.1 hP hD hS q0 he rfl k hk (M.2.2.2.2 _ hlk) (fun _ h9 => h9) hfin hd rfl rfl hl hdg (fun H1 locs1 hP1 hD1 hS1 => kk H1 locs1 la hP1 hD1 hS1 hlh)
theorem x_get3 (M : CallFix p m c cc nL s args gw own) (TB : x_TB D kc A s s.heap) (k : Nat) {a q0 index : Nat} {fs : List Value} {v : Value} (he : ws[q0]? = some (a, .inr (3, fs))) (hk : k < 15) (hv : fs[k]? = some v) (hlk : Cond.fieldLink own index (TX3 k).1 (TX3 k).2.1 (TX3 k).2.2.1 ∈ gw) (hdg : decode cc pc = .ok (.getfield index, 3))
    (kk : x_X p l e R s m args below meth c D A nL cells slots Q ws (pc + 3) ls (v :: st)) : x_X p l e R s m args below meth c D A nL cells slots Q ws pc ls (.ref a :: st) := fun H locs la hP hD hS hl =>
  va_get (D := D) (ci := 3) (v := v) (C := RX3) (T := TX3) (N := 15) M.1 M.2.1 M.2.2.2.2 gwl_X3 M.2.2.2.1 TB.1 hP q0 he rfl k hk (M.2.2.2.2 _ hlk) (fun _ h9 => h9) hv hdg (kk H locs la hP hD hS hl)
theorem x_put3 (M : CallFix p m c cc nL s args gw own) (TB : x_TB D kc A s s.heap) (k : Nat) {a q0 index : Nat} {fs : List Value} {x : Int32} (he : ws[q0]? = some (a, .inr (3, fs))) (hk : k < 15) (hl : k < fs.length) (hfin : (TX3 k).2.2.2 = false) (hd : parseFieldDescriptor (TX3 k).2.2.1 = some .int) (hlk : Cond.fieldLink own index (TX3 k).1 (TX3 k).2.1 (TX3 k).2.2.1 ∈ gw) (hdg : decode cc pc = .ok (.putfield index, 3))
    (kk : x_X p l e R s m args below meth c D A nL cells slots Q (ws.set q0 (a, .inr (3, fs.set k (.int x)))) (pc + 3) ls st) : x_X p l e R s m args below meth c D A nL cells slots Q ws pc ls (.int x :: .ref a :: st) := fun H locs la hP hD hS hlh =>
  va_put (D := D) (ci := 3) (v := .int x) (ty := .int) (C := RX3) (T := TX3) (N := 15) M.1 M.2.1 M.2.2.2.2 gwl_X3 tyX3 tyX3_ok nmX3 M.2.2.2.1 TB.1 hP hD hS q0 he rfl k hk (M.2.2.2.2 _ hlk) (fun _ h9 => h9) hfin hd rfl rfl hl hdg (fun H1 locs1 hP1 hD1 hS1 => kk H1 locs1 la hP1 hD1 hS1 hlh)
theorem x_iald (M : CallFix p m c cc nL s args gw own) (TB : x_TB D kc A s s.heap) {a q0 n j : Nat} {f : Nat → Int32} (ha : ws[q0]? = some (a, .inl (kc 0, n, .inl f))) (hj : j < n) (hn : n < 2 ^ 31) (hdg : decode cc pc = .ok (.iaload, 1))
    (kk : x_X p l e R s m args below meth c D A nL cells slots Q ws (pc + 1) ls (.int (f j) :: st)) : x_X p l e R s m args below meth c D A nL cells slots Q ws pc ls (.int (nI j) :: .ref a :: st) := fun H locs la hP hD hS hl =>
  va_iald M.1 M.2.1 TB.1 hP q0 0 ha rfl (vp_in_nI hj hn) hdg (by rw [nI_clamp (by omega)]; exact kk H locs la hP hD hS hl)
theorem x_iast (M : CallFix p m c cc nL s args gw own) (TB : x_TB D kc A s s.heap) {a q0 n j : Nat} {f : Nat → Int32} {x : Int32} (ha : ws[q0]? = some (a, .inl (kc 0, n, .inl f))) (hj : j < n) (hn : n < 2 ^ 31) (hdg : decode cc pc = .ok (.iastore, 1))
    (kk : x_X p l e R s m args below meth c D A nL cells slots Q (ws.set q0 (a, .inl (kc 0, n, .inl (upd f j x)))) (pc + 1) ls st) : x_X p l e R s m args below meth c D A nL cells slots Q ws pc ls (.int x :: .int (nI j) :: .ref a :: st) := fun H locs la hP hD hS hl =>
  va_iast M.1 M.2.1 TB.1 hP hD hS q0 0 ha rfl (vp_in_nI hj hn) hdg (fun H1 locs1 hP1 hD1 hS1 => by rw [nI_clamp (by omega)] at hP1 hD1; exact kk H1 locs1 la hP1 hD1 hS1 hl)
theorem x_lald (M : CallFix p m c cc nL s args gw own) (TB : x_TB D kc A s s.heap) {a q0 n j : Nat} {f : Nat → Int64} (ha : ws[q0]? = some (a, .inl (kc 1, n, .inr (.inl f)))) (hj : j < n) (hn : n < 2 ^ 31) (hdg : decode cc pc = .ok (.laload, 1))
    (kk : x_X p l e R s m args below meth c D A nL cells slots Q ws (pc + 1) ls (.long (f j) :: st)) : x_X p l e R s m args below meth c D A nL cells slots Q ws pc ls (.int (nI j) :: .ref a :: st) := fun H locs la hP hD hS hl =>
  va_lald M.1 M.2.1 TB.1 hP q0 1 ha rfl (vp_in_nI hj hn) hdg (by rw [nI_clamp (by omega)]; exact kk H locs la hP hD hS hl)
theorem x_last (M : CallFix p m c cc nL s args gw own) (TB : x_TB D kc A s s.heap) {a q0 n j : Nat} {f : Nat → Int64} {x : Int64} (ha : ws[q0]? = some (a, .inl (kc 1, n, .inr (.inl f)))) (hj : j < n) (hn : n < 2 ^ 31) (hdg : decode cc pc = .ok (.lastore, 1))
    (kk : x_X p l e R s m args below meth c D A nL cells slots Q (ws.set q0 (a, .inl (kc 1, n, .inr (.inl (vp_updL f j x))))) (pc + 1) ls st) : x_X p l e R s m args below meth c D A nL cells slots Q ws pc ls (.long x :: .int (nI j) :: .ref a :: st) := fun H locs la hP hD hS hl =>
  va_last M.1 M.2.1 TB.1 hP hD hS q0 1 ha rfl (vp_in_nI hj hn) hdg (fun H1 locs1 hP1 hD1 hS1 => by rw [nI_clamp (by omega)] at hP1 hD1; exact kk H1 locs1 la hP1 hD1 hS1 hl)
theorem x_aald (M : CallFix p m c cc nL s args gw own) (TB : x_TB D kc A s s.heap) {a q0 n j t0 : Nat} {f : Nat → Option Nat} {cA : ClassId} {ty : FieldType} (ha : ws[q0]? = some (a, .inl (cA, n, .inr (.inr (.inr (.inr f)))))) (ht : (x_tys kc)[t0]? = some (cA, ty)) (hty : ty.isReference = true) (hj : j < n) (hn : n < 2 ^ 31) (hdg : decode cc pc = .ok (.aaload, 1))
    (kk : x_X p l e R s m args below meth c D A nL cells slots Q ws (pc + 1) ls (va_rf (f j) :: st)) : x_X p l e R s m args below meth c D A nL cells slots Q ws pc ls (.int (nI j) :: .ref a :: st) := fun H locs la hP hD hS hl => by
  have hin : vp_in (nI j) n := vp_in_nI hj hn
  have hcl : (nI j).toNatClampNeg = j := nI_clamp (by omega)
  exact W.aald (v := va_rf (f j)) (ty := ty) M.1 M.2.1 (hP q0 _ ha) ((TB.1.2 t0 _ ht).1 n (fun j => va_rf (f j))) hty (fun q => by cases q) (by show ¬ (nI j < 0 ∨ (arrV _ _ _).slots.size ≤ _); rw [arrV_size]; exact hin) (by show (arrV _ _ _).slots[_]? = _; rw [hcl, arrV_read _ _ hj]) rfl rfl hdg (kk H locs la hP hD hS hl)
theorem x_alen (M : CallFix p m c cc nL s args gw own) (TB : x_TB D kc A s s.heap) {a q0 t0 : Nat} {cA : ClassId} {x : vp_A} (ha : ws[q0]? = some (a, .inl (cA, x))) {ty : FieldType} (ht : (x_tys kc)[t0]? = some (cA, ty)) (hdg : decode cc pc = .ok (.arraylength, 1))
    (kk : x_X p l e R s m args below meth c D A nL cells slots Q ws (pc + 1) ls (.int (nI x.1) :: st)) : x_X p l e R s m args below meth c D A nL cells slots Q ws pc ls (.ref a :: st) := fun H locs la hP hD hS hl =>
  va_alen M.1 M.2.1 TB.1 hP q0 t0 ha ht rfl hdg (kk H locs la hP hD hS hl)
theorem x_nImin {a b : Nat} (ha : a < 2 ^ 31) (hb : b < 2 ^ 31) : (if nI b < nI a then nI b else nI a) = nI (min a b) := by
  by_cases h : b < a
  · rw [if_pos ((nI_ltI hb ha).mpr h), Nat.min_eq_right (by omega)]
  · rw [if_neg (fun q => h ((nI_ltI hb ha).mp q)), Nat.min_eq_left (by omega)]
theorem x_min (M : CallFix p m c cc nL s args gw own) {a b index : Nat} (ha : a < 2 ^ 31) (hb : b < 2 ^ 31) (hlk : Cond.methodLink own index Lib.Math.min.name ∈ gw) (hR : 1 ≤ R.frames ∧ 21 ≤ R.locals) (hcs : cells ≤ R.cells ∧ slots ≤ R.slots) (hst : (st.map fun v => v.category).sum ≤ 8) (hdg : decode cc pc = .ok (.invokestatic index, 3))
    (kk : x_X p l e R s m args below meth c D A nL cells slots Q ws (pc + 3) ls (.int (nI (min a b)) :: st)) : x_X p l e R s m args below meth c D A nL cells slots Q ws pc ls (.int (nI b) :: .int (nI a) :: st) := fun H locs la hP hD hS hl =>
  va_mmin M.1 M.2.1 (M.2.2.1.trans hl.1.symm) M.2.2.2.1 (M.2.2.2.2 _ hlk) (M.2.2.2.2 _ kw_352) (M.2.2.2.2 _ kw_28) (M.2.2.2.2 _ kw_353) hR.1 (by omega) hcs.1 hcs.2 hdg (by rw [x_nImin ha hb]; exact kk H locs la hP hD hS hl)
end XH
end
section
/-! THE WORLD: numbers of the state by register and place; its cells: 0 the class's object, 1 its prices, 2 its labels' row, 3 its memory, 4, 5 the memory's rows, 6 the reference, 7 to 17 its arrays, 18 the answers' place, 19 to 30 the labels, 31 to 90 the memory's sixty rows -/
abbrev St : Type := Nat → Nat → Nat
def up (S : St) (r i v : Nat) : St := fun r2 i2 => if r2 = r ∧ i2 = i then v else S r2 i2
theorem up_s (S : St) (r i v : Nat) : up S r i v r i = v := by simp [up]
theorem up_n (S : St) {r i v r2 i2 : Nat} (h : ¬ (r2 = r ∧ i2 = i)) : up S r i v r2 i2 = S r2 i2 := if_neg h
theorem up_r (S : St) {r i v r2 i2 : Nat} (h : r2 ≠ r) : up S r i v r2 i2 = S r2 i2 := if_neg (fun q => h q.1)
theorem up_i (S : St) {r i v i2 : Nat} (h : i2 ≠ i) : up S r i v r i2 = S r i2 := if_neg (fun q => h q.2)
/-- an order's number as the class holds it: -1 for none -/
def eo (v : Nat) : Int32 := if v = 0 then -1 else nI v
/-- a remembered price as the reference holds it: -1 for none (10000 here) -/
def em (v : Nat) : Int32 := if v = 10000 then -1 else nI v
def fX (ad : Nat → Nat) (A : St) : List Value := [.ref (ad 1), .ref (ad 2), .ref (ad 3), .int (nI (A 0 0)), .int (nI (A 0 1)), .int (nI (A 0 2))]
def fL (A : St) (i : Nat) : List Value := [.int (nI (A 2 i)), .int (nI (A 3 i)), .int (nI (A 4 i)), .int (nI (A 5 i)), .int (eo (A 8 i)), .int (nI (A 9 i)), .int (nI (A 6 i)), .int (nI (A 7 i))]
def fM (ad : Nat → Nat) (B : St) (th : Nat) : List Value := [.int (nI th), .int (nI (B 0 1)), .int (nI (B 0 2)), .ref (ad 7), .int (nI (B 0 0)), .ref (ad 8), .ref (ad 9), .ref (ad 10), .ref (ad 11), .ref (ad 12), .ref (ad 13), .ref (ad 14), .ref (ad 15), .ref (ad 16), .ref (ad 17)]
def ctS (kc : Nat → ClassId) (ad : Nat → Nat) (A B : St) (th : Nat) (ov : Int64) (hw : Nat) : Nat → va_E := fun c => match c with
  | 0 => .inr (2, fX ad A)
  | 1 => .inl (kc 0, 12, .inl (fun j => nI (A 1 j)))
  | 2 => .inl (kc 2, 12, .inr (.inr (.inr (.inr (fun j => if j < 12 then some (ad (19 + j)) else none)))))
  | 3 => .inr (1, [.ref (ad 4), .ref (ad 5)])
  | 4 => .inl (kc 3, 60, .inr (.inr (.inr (.inr (fun j => if j < 60 then some (ad (31 + j)) else none)))))
  | 5 => .inl (kc 0, 12, .inl (fun j => nI (A 11 j)))
  | 6 => .inr (3, fM ad B th)
  | 7 => .inl (kc 0, 12, .inl (fun j => nI (B 1 j)))
  | 8 => .inl (kc 0, 12, .inl (fun j => nI (B 2 j)))
  | 9 => .inl (kc 0, 12, .inl (fun j => nI (B 3 j)))
  | 10 => .inl (kc 0, 12, .inl (fun j => nI (B 4 j)))
  | 11 => .inl (kc 0, 12, .inl (fun j => if j < hw then nI (B 5 j) else nI 0))
  | 12 => .inl (kc 0, 12, .inl (fun j => nI (B 6 j)))
  | 13 => .inl (kc 0, 12, .inl (fun j => nI (B 7 j)))
  | 14 => .inl (kc 0, 12, .inl (fun j => nI (B 8 j)))
  | 15 => .inl (kc 0, 12, .inl (fun j => nI (B 9 j)))
  | 16 => .inl (kc 0, 720, .inl (fun j => em (B 10 j)))
  | 17 => .inl (kc 0, 12, .inl (fun j => em (B 11 j)))
  | _ => .inl (kc 1, 1, .inr (.inl (fun j => if j = 0 then ov else 0)))
def ct (kc : Nat → ClassId) (ad : Nat → Nat) (A B : St) (th : Nat) (ov : Int64) (hw : Nat) (c : Nat) : va_E :=
  if c < 19 then ctS kc ad A B th ov hw c else if c < 31 then .inr (0, fL A (c - 19)) else .inl (kc 0, 12, .inl (fun j => nI (A 10 (60 * j + (c - 31)))))
def wl (kc : Nat → ClassId) (ad : Nat → Nat) (A B : St) (th : Nat) (ov : Int64) (hw : Nat) : va_W := (List.range 91).map (fun c => (ad c, ct kc ad A B th ov hw c))
section XW
variable {kc : Nat → ClassId} {ad : Nat → Nat} {A B : St} {th : Nat} {ov : Int64} {hw : Nat}
theorem wl_at {c : Nat} (h : c < 91) : (wl kc ad A B th ov hw)[c]? = some (ad c, ct kc ad A B th ov hw c) := by
  unfold wl
  rw [List.getElem?_map, List.getElem?_range h]
  rfl
theorem wl_set {A2 B2 : St} {th2 : Nat} {ov2 : Int64} {hw2 : Nat} {c : Nat} {e : va_E} (h : c < 91) (he : ct kc ad A2 B2 th2 ov2 hw2 c = e) (ho : ∀ c2, c2 < 91 → c2 ≠ c → ct kc ad A2 B2 th2 ov2 hw2 c2 = ct kc ad A B th ov hw c2) : (wl kc ad A B th ov hw).set c (ad c, e) = wl kc ad A2 B2 th2 ov2 hw2 := by
  refine List.ext_getElem? fun k => ?_
  by_cases hk : k < 91
  · rw [wl_at hk]
    by_cases e2 : c = k
    · subst e2
      rw [List.getElem?_set_self', wl_at hk, he]
      rfl
    · rw [List.getElem?_set_ne e2, wl_at hk, ho k hk (fun q => e2 q.symm)]
  · rw [List.getElem?_eq_none (by rw [List.length_set]; unfold wl; simp; omega), List.getElem?_eq_none (by unfold wl; simp; omega)]
theorem ct_lab {i : Nat} (hi : i < 12) : ct kc ad A B th ov hw (19 + i) = .inr (0, fL A i) := by
  unfold ct
  rw [if_neg (by omega), if_pos (by omega), Nat.add_sub_cancel_left]
theorem ct_row {r : Nat} (hr : r < 60) : ct kc ad A B th ov hw (31 + r) = .inl (kc 0, 12, .inl (fun j => nI (A 10 (60 * j + r)))) := by
  unfold ct
  rw [if_neg (by omega), if_neg (by omega), Nat.add_sub_cancel_left]
theorem wl_lab {i : Nat} (hi : i < 12) : (wl kc ad A B th ov hw)[19 + i]? = some (ad (19 + i), .inr (0, fL A i)) := by rw [wl_at (by omega), ct_lab hi]
theorem wl_row {r : Nat} (hr : r < 60) : (wl kc ad A B th ov hw)[31 + r]? = some (ad (31 + r), .inl (kc 0, 12, .inl (fun j => nI (A 10 (60 * j + r))))) := by rw [wl_at (by omega), ct_row hr]
theorem cu_A0 {i v : Nat} : ∀ c2, c2 < 91 → c2 ≠ 0 → ct kc ad (up A 0 i v) B th ov hw c2 = ct kc ad A B th ov hw c2 := by
  intro c2 h1 h2
  unfold ct
  split
  · unfold ctS
    split <;> first | rfl | exact absurd rfl h2
  · rfl
theorem cu_A1 {i v : Nat} : ∀ c2, c2 < 91 → c2 ≠ 1 → ct kc ad (up A 1 i v) B th ov hw c2 = ct kc ad A B th ov hw c2 := by
  intro c2 h1 h2
  unfold ct
  split
  · unfold ctS
    split <;> first | rfl | exact absurd rfl h2
  · rfl
theorem cu_A2 {i v : Nat} : ∀ c2, c2 < 91 → c2 ≠ 19 + i → ct kc ad (up A 2 i v) B th ov hw c2 = ct kc ad A B th ov hw c2 := by
  intro c2 h1 h2
  unfold ct
  split
  · unfold ctS
    split <;> rfl
  · split
    · have hne : c2 - 19 ≠ i := by omega
      unfold fL
      rw [up_i A hne]
      rfl
    · rfl
theorem cu_A3 {i v : Nat} : ∀ c2, c2 < 91 → c2 ≠ 19 + i → ct kc ad (up A 3 i v) B th ov hw c2 = ct kc ad A B th ov hw c2 := by
  intro c2 h1 h2
  unfold ct
  split
  · unfold ctS
    split <;> rfl
  · split
    · have hne : c2 - 19 ≠ i := by omega
      unfold fL
      rw [up_i A hne]
      rfl
    · rfl
theorem cu_A4 {i v : Nat} : ∀ c2, c2 < 91 → c2 ≠ 19 + i → ct kc ad (up A 4 i v) B th ov hw c2 = ct kc ad A B th ov hw c2 := by
  intro c2 h1 h2
  unfold ct
  split
  · unfold ctS
    split <;> rfl
  · split
    · have hne : c2 - 19 ≠ i := by omega
      unfold fL
      rw [up_i A hne]
      rfl
    · rfl
theorem cu_A5 {i v : Nat} : ∀ c2, c2 < 91 → c2 ≠ 19 + i → ct kc ad (up A 5 i v) B th ov hw c2 = ct kc ad A B th ov hw c2 := by
  intro c2 h1 h2
  unfold ct
  split
  · unfold ctS
    split <;> rfl
  · split
    · have hne : c2 - 19 ≠ i := by omega
      unfold fL
      rw [up_i A hne]
      rfl
    · rfl
theorem cu_A6 {i v : Nat} : ∀ c2, c2 < 91 → c2 ≠ 19 + i → ct kc ad (up A 6 i v) B th ov hw c2 = ct kc ad A B th ov hw c2 := by
  intro c2 h1 h2
  unfold ct
  split
  · unfold ctS
    split <;> rfl
  · split
    · have hne : c2 - 19 ≠ i := by omega
      unfold fL
      rw [up_i A hne]
      rfl
    · rfl
theorem cu_A7 {i v : Nat} : ∀ c2, c2 < 91 → c2 ≠ 19 + i → ct kc ad (up A 7 i v) B th ov hw c2 = ct kc ad A B th ov hw c2 := by
  intro c2 h1 h2
  unfold ct
  split
  · unfold ctS
    split <;> rfl
  · split
    · have hne : c2 - 19 ≠ i := by omega
      unfold fL
      rw [up_i A hne]
      rfl
    · rfl
theorem cu_A8 {i v : Nat} : ∀ c2, c2 < 91 → c2 ≠ 19 + i → ct kc ad (up A 8 i v) B th ov hw c2 = ct kc ad A B th ov hw c2 := by
  intro c2 h1 h2
  unfold ct
  split
  · unfold ctS
    split <;> rfl
  · split
    · have hne : c2 - 19 ≠ i := by omega
      unfold fL
      rw [up_i A hne]
      rfl
    · rfl
theorem cu_A9 {i v : Nat} : ∀ c2, c2 < 91 → c2 ≠ 19 + i → ct kc ad (up A 9 i v) B th ov hw c2 = ct kc ad A B th ov hw c2 := by
  intro c2 h1 h2
  unfold ct
  split
  · unfold ctS
    split <;> rfl
  · split
    · have hne : c2 - 19 ≠ i := by omega
      unfold fL
      rw [up_i A hne]
      rfl
    · rfl
theorem cu_A10 {j q v : Nat} (hq : q < 60) : ∀ c2, c2 < 91 → c2 ≠ 31 + q → ct kc ad (up A 10 (60 * j + q) v) B th ov hw c2 = ct kc ad A B th ov hw c2 := by
  intro c2 h1 h2
  unfold ct
  split
  · unfold ctS
    split <;> rfl
  · split
    · rfl
    · have hne : ∀ x : Nat, 60 * x + (c2 - 31) ≠ 60 * j + q := fun x => by omega
      refine congrArg (fun f => (Sum.inl (kc 0, 12, Sum.inl f) : va_E)) (funext fun x => ?_)
      rw [up_i A (hne x)]
theorem cu_A11 {i v : Nat} : ∀ c2, c2 < 91 → c2 ≠ 5 → ct kc ad (up A 11 i v) B th ov hw c2 = ct kc ad A B th ov hw c2 := by
  intro c2 h1 h2
  unfold ct
  split
  · unfold ctS
    split <;> first | rfl | exact absurd rfl h2
  · rfl
theorem cu_B0 {i v : Nat} : ∀ c2, c2 < 91 → c2 ≠ 6 → ct kc ad A (up B 0 i v) th ov hw c2 = ct kc ad A B th ov hw c2 := by
  intro c2 h1 h2
  unfold ct
  split
  · unfold ctS
    split <;> first | rfl | exact absurd rfl h2
  · rfl
theorem cu_B1 {i v : Nat} : ∀ c2, c2 < 91 → c2 ≠ 7 → ct kc ad A (up B 1 i v) th ov hw c2 = ct kc ad A B th ov hw c2 := by
  intro c2 h1 h2
  unfold ct
  split
  · unfold ctS
    split <;> first | rfl | exact absurd rfl h2
  · rfl
theorem cu_B2 {i v : Nat} : ∀ c2, c2 < 91 → c2 ≠ 8 → ct kc ad A (up B 2 i v) th ov hw c2 = ct kc ad A B th ov hw c2 := by
  intro c2 h1 h2
  unfold ct
  split
  · unfold ctS
    split <;> first | rfl | exact absurd rfl h2
  · rfl
theorem cu_B3 {i v : Nat} : ∀ c2, c2 < 91 → c2 ≠ 9 → ct kc ad A (up B 3 i v) th ov hw c2 = ct kc ad A B th ov hw c2 := by
  intro c2 h1 h2
  unfold ct
  split
  · unfold ctS
    split <;> first | rfl | exact absurd rfl h2
  · rfl
theorem cu_B4 {i v : Nat} : ∀ c2, c2 < 91 → c2 ≠ 10 → ct kc ad A (up B 4 i v) th ov hw c2 = ct kc ad A B th ov hw c2 := by
  intro c2 h1 h2
  unfold ct
  split
  · unfold ctS
    split <;> first | rfl | exact absurd rfl h2
  · rfl
theorem cu_B5 {i v : Nat} : ∀ c2, c2 < 91 → c2 ≠ 11 → ct kc ad A (up B 5 i v) th ov hw c2 = ct kc ad A B th ov hw c2 := by
  intro c2 h1 h2
  unfold ct
  split
  · unfold ctS
    split <;> first | rfl | exact absurd rfl h2
  · rfl
theorem cu_B6 {i v : Nat} : ∀ c2, c2 < 91 → c2 ≠ 12 → ct kc ad A (up B 6 i v) th ov hw c2 = ct kc ad A B th ov hw c2 := by
  intro c2 h1 h2
  unfold ct
  split
  · unfold ctS
    split <;> first | rfl | exact absurd rfl h2
  · rfl
theorem cu_B7 {i v : Nat} : ∀ c2, c2 < 91 → c2 ≠ 13 → ct kc ad A (up B 7 i v) th ov hw c2 = ct kc ad A B th ov hw c2 := by
  intro c2 h1 h2
  unfold ct
  split
  · unfold ctS
    split <;> first | rfl | exact absurd rfl h2
  · rfl
theorem cu_B8 {i v : Nat} : ∀ c2, c2 < 91 → c2 ≠ 14 → ct kc ad A (up B 8 i v) th ov hw c2 = ct kc ad A B th ov hw c2 := by
  intro c2 h1 h2
  unfold ct
  split
  · unfold ctS
    split <;> first | rfl | exact absurd rfl h2
  · rfl
theorem cu_B9 {i v : Nat} : ∀ c2, c2 < 91 → c2 ≠ 15 → ct kc ad A (up B 9 i v) th ov hw c2 = ct kc ad A B th ov hw c2 := by
  intro c2 h1 h2
  unfold ct
  split
  · unfold ctS
    split <;> first | rfl | exact absurd rfl h2
  · rfl
theorem cu_B10 {i v : Nat} : ∀ c2, c2 < 91 → c2 ≠ 16 → ct kc ad A (up B 10 i v) th ov hw c2 = ct kc ad A B th ov hw c2 := by
  intro c2 h1 h2
  unfold ct
  split
  · unfold ctS
    split <;> first | rfl | exact absurd rfl h2
  · rfl
theorem cu_B11 {i v : Nat} : ∀ c2, c2 < 91 → c2 ≠ 17 → ct kc ad A (up B 11 i v) th ov hw c2 = ct kc ad A B th ov hw c2 := by
  intro c2 h1 h2
  unfold ct
  split
  · unfold ctS
    split <;> first | rfl | exact absurd rfl h2
  · rfl
theorem cu_th {th2 : Nat} : ∀ c2, c2 < 91 → c2 ≠ 6 → ct kc ad A B th2 ov hw c2 = ct kc ad A B th ov hw c2 := by
  intro c2 h1 h2
  unfold ct
  split
  · unfold ctS
    split <;> first | rfl | exact absurd rfl h2
  · rfl
theorem cu_hw {hw2 : Nat} : ∀ c2, c2 < 91 → c2 ≠ 11 → ct kc ad A B th ov hw2 c2 = ct kc ad A B th ov hw c2 := by
  intro c2 h1 h2
  unfold ct
  split
  · unfold ctS
    split <;> first | rfl | exact absurd rfl h2
  · rfl
theorem cu_ov {ov2 : Int64} : ∀ c2, c2 < 91 → c2 ≠ 18 → ct kc ad A B th ov2 hw c2 = ct kc ad A B th ov hw c2 := by
  intro c2 h1 h2
  unfold ct
  split
  · rename_i h3
    rcases (show c2 = 0 ∨ c2 = 1 ∨ c2 = 2 ∨ c2 = 3 ∨ c2 = 4 ∨ c2 = 5 ∨ c2 = 6 ∨ c2 = 7 ∨ c2 = 8 ∨ c2 = 9 ∨ c2 = 10 ∨ c2 = 11 ∨ c2 = 12 ∨ c2 = 13 ∨ c2 = 14 ∨ c2 = 15 ∨ c2 = 16 ∨ c2 = 17 ∨ c2 = 18 by omega) with rfl | rfl | rfl | rfl | rfl | rfl | rfl | rfl | rfl | rfl | rfl | rfl | rfl | rfl | rfl | rfl | rfl | rfl | rfl <;> first | rfl | exact absurd rfl h2
  · rfl
end XW
section XV
variable {p : Program} {l : Launch} {e : Env} {R : Room} {s : State} {m : MethodId} {args : Array Value} {below : List Frame} {meth : Method} {c : Code} {D : va_G} {A : Nat → Prop} {nL cells slots : Nat} {Q : State → Prop}
variable {cc : ByteArray} {own : String} {pc : Nat} {ls : List (Option Value)} {st : List Value} {kc : Nat → ClassId} {ad : Nat → Nat} {X B : St} {th : Nat} {ov : Int64} {hw : Nat}
theorem gX0 (M : CallFix p m c cc nL s args gw own) (TB : x_TB D kc A s s.heap) {index : Nat} (hlk : Cond.fieldLink own index (TX2 0).1 (TX2 0).2.1 (TX2 0).2.2.1 ∈ gw) (hdg : decode cc pc = .ok (.getfield index, 3)) (kk : x_X p l e R s m args below meth c D A nL cells slots Q (wl kc ad X B th ov hw) (pc + 3) ls (.ref (ad 1) :: st)) : x_X p l e R s m args below meth c D A nL cells slots Q (wl kc ad X B th ov hw) pc ls (.ref (ad 0) :: st) :=
  x_get2 M TB 0 (wl_at (c := 0) (by decide)) (by decide) rfl hlk hdg kk
theorem gX1 (M : CallFix p m c cc nL s args gw own) (TB : x_TB D kc A s s.heap) {index : Nat} (hlk : Cond.fieldLink own index (TX2 1).1 (TX2 1).2.1 (TX2 1).2.2.1 ∈ gw) (hdg : decode cc pc = .ok (.getfield index, 3)) (kk : x_X p l e R s m args below meth c D A nL cells slots Q (wl kc ad X B th ov hw) (pc + 3) ls (.ref (ad 2) :: st)) : x_X p l e R s m args below meth c D A nL cells slots Q (wl kc ad X B th ov hw) pc ls (.ref (ad 0) :: st) :=
  x_get2 M TB 1 (wl_at (c := 0) (by decide)) (by decide) rfl hlk hdg kk
theorem gX2 (M : CallFix p m c cc nL s args gw own) (TB : x_TB D kc A s s.heap) {index : Nat} (hlk : Cond.fieldLink own index (TX2 2).1 (TX2 2).2.1 (TX2 2).2.2.1 ∈ gw) (hdg : decode cc pc = .ok (.getfield index, 3)) (kk : x_X p l e R s m args below meth c D A nL cells slots Q (wl kc ad X B th ov hw) (pc + 3) ls (.ref (ad 3) :: st)) : x_X p l e R s m args below meth c D A nL cells slots Q (wl kc ad X B th ov hw) pc ls (.ref (ad 0) :: st) :=
  x_get2 M TB 2 (wl_at (c := 0) (by decide)) (by decide) rfl hlk hdg kk
theorem gX3 (M : CallFix p m c cc nL s args gw own) (TB : x_TB D kc A s s.heap) {index : Nat} (hlk : Cond.fieldLink own index (TX2 3).1 (TX2 3).2.1 (TX2 3).2.2.1 ∈ gw) (hdg : decode cc pc = .ok (.getfield index, 3)) (kk : x_X p l e R s m args below meth c D A nL cells slots Q (wl kc ad X B th ov hw) (pc + 3) ls (.int (nI (X 0 0)) :: st)) : x_X p l e R s m args below meth c D A nL cells slots Q (wl kc ad X B th ov hw) pc ls (.ref (ad 0) :: st) :=
  x_get2 M TB 3 (wl_at (c := 0) (by decide)) (by decide) rfl hlk hdg kk
theorem gX4 (M : CallFix p m c cc nL s args gw own) (TB : x_TB D kc A s s.heap) {index : Nat} (hlk : Cond.fieldLink own index (TX2 4).1 (TX2 4).2.1 (TX2 4).2.2.1 ∈ gw) (hdg : decode cc pc = .ok (.getfield index, 3)) (kk : x_X p l e R s m args below meth c D A nL cells slots Q (wl kc ad X B th ov hw) (pc + 3) ls (.int (nI (X 0 1)) :: st)) : x_X p l e R s m args below meth c D A nL cells slots Q (wl kc ad X B th ov hw) pc ls (.ref (ad 0) :: st) :=
  x_get2 M TB 4 (wl_at (c := 0) (by decide)) (by decide) rfl hlk hdg kk
theorem gX5 (M : CallFix p m c cc nL s args gw own) (TB : x_TB D kc A s s.heap) {index : Nat} (hlk : Cond.fieldLink own index (TX2 5).1 (TX2 5).2.1 (TX2 5).2.2.1 ∈ gw) (hdg : decode cc pc = .ok (.getfield index, 3)) (kk : x_X p l e R s m args below meth c D A nL cells slots Q (wl kc ad X B th ov hw) (pc + 3) ls (.int (nI (X 0 2)) :: st)) : x_X p l e R s m args below meth c D A nL cells slots Q (wl kc ad X B th ov hw) pc ls (.ref (ad 0) :: st) :=
  x_get2 M TB 5 (wl_at (c := 0) (by decide)) (by decide) rfl hlk hdg kk
theorem gL0 (M : CallFix p m c cc nL s args gw own) (TB : x_TB D kc A s s.heap) {index i : Nat} (hi : i < 12) (hlk : Cond.fieldLink own index (TX0 0).1 (TX0 0).2.1 (TX0 0).2.2.1 ∈ gw) (hdg : decode cc pc = .ok (.getfield index, 3)) (kk : x_X p l e R s m args below meth c D A nL cells slots Q (wl kc ad X B th ov hw) (pc + 3) ls (.int (nI (X 2 i)) :: st)) : x_X p l e R s m args below meth c D A nL cells slots Q (wl kc ad X B th ov hw) pc ls (.ref (ad (19 + i)) :: st) :=
  x_get0 M TB 0 (wl_lab hi) (by decide) rfl hlk hdg kk
theorem gL1 (M : CallFix p m c cc nL s args gw own) (TB : x_TB D kc A s s.heap) {index i : Nat} (hi : i < 12) (hlk : Cond.fieldLink own index (TX0 1).1 (TX0 1).2.1 (TX0 1).2.2.1 ∈ gw) (hdg : decode cc pc = .ok (.getfield index, 3)) (kk : x_X p l e R s m args below meth c D A nL cells slots Q (wl kc ad X B th ov hw) (pc + 3) ls (.int (nI (X 3 i)) :: st)) : x_X p l e R s m args below meth c D A nL cells slots Q (wl kc ad X B th ov hw) pc ls (.ref (ad (19 + i)) :: st) :=
  x_get0 M TB 1 (wl_lab hi) (by decide) rfl hlk hdg kk
theorem gL2 (M : CallFix p m c cc nL s args gw own) (TB : x_TB D kc A s s.heap) {index i : Nat} (hi : i < 12) (hlk : Cond.fieldLink own index (TX0 2).1 (TX0 2).2.1 (TX0 2).2.2.1 ∈ gw) (hdg : decode cc pc = .ok (.getfield index, 3)) (kk : x_X p l e R s m args below meth c D A nL cells slots Q (wl kc ad X B th ov hw) (pc + 3) ls (.int (nI (X 4 i)) :: st)) : x_X p l e R s m args below meth c D A nL cells slots Q (wl kc ad X B th ov hw) pc ls (.ref (ad (19 + i)) :: st) :=
  x_get0 M TB 2 (wl_lab hi) (by decide) rfl hlk hdg kk
theorem gL3 (M : CallFix p m c cc nL s args gw own) (TB : x_TB D kc A s s.heap) {index i : Nat} (hi : i < 12) (hlk : Cond.fieldLink own index (TX0 3).1 (TX0 3).2.1 (TX0 3).2.2.1 ∈ gw) (hdg : decode cc pc = .ok (.getfield index, 3)) (kk : x_X p l e R s m args below meth c D A nL cells slots Q (wl kc ad X B th ov hw) (pc + 3) ls (.int (nI (X 5 i)) :: st)) : x_X p l e R s m args below meth c D A nL cells slots Q (wl kc ad X B th ov hw) pc ls (.ref (ad (19 + i)) :: st) :=
  x_get0 M TB 3 (wl_lab hi) (by decide) rfl hlk hdg kk
theorem gL4 (M : CallFix p m c cc nL s args gw own) (TB : x_TB D kc A s s.heap) {index i : Nat} (hi : i < 12) (hlk : Cond.fieldLink own index (TX0 4).1 (TX0 4).2.1 (TX0 4).2.2.1 ∈ gw) (hdg : decode cc pc = .ok (.getfield index, 3)) (kk : x_X p l e R s m args below meth c D A nL cells slots Q (wl kc ad X B th ov hw) (pc + 3) ls (.int (eo (X 8 i)) :: st)) : x_X p l e R s m args below meth c D A nL cells slots Q (wl kc ad X B th ov hw) pc ls (.ref (ad (19 + i)) :: st) :=
  x_get0 M TB 4 (wl_lab hi) (by decide) rfl hlk hdg kk
theorem gL5 (M : CallFix p m c cc nL s args gw own) (TB : x_TB D kc A s s.heap) {index i : Nat} (hi : i < 12) (hlk : Cond.fieldLink own index (TX0 5).1 (TX0 5).2.1 (TX0 5).2.2.1 ∈ gw) (hdg : decode cc pc = .ok (.getfield index, 3)) (kk : x_X p l e R s m args below meth c D A nL cells slots Q (wl kc ad X B th ov hw) (pc + 3) ls (.int (nI (X 9 i)) :: st)) : x_X p l e R s m args below meth c D A nL cells slots Q (wl kc ad X B th ov hw) pc ls (.ref (ad (19 + i)) :: st) :=
  x_get0 M TB 5 (wl_lab hi) (by decide) rfl hlk hdg kk
theorem gL6 (M : CallFix p m c cc nL s args gw own) (TB : x_TB D kc A s s.heap) {index i : Nat} (hi : i < 12) (hlk : Cond.fieldLink own index (TX0 6).1 (TX0 6).2.1 (TX0 6).2.2.1 ∈ gw) (hdg : decode cc pc = .ok (.getfield index, 3)) (kk : x_X p l e R s m args below meth c D A nL cells slots Q (wl kc ad X B th ov hw) (pc + 3) ls (.int (nI (X 6 i)) :: st)) : x_X p l e R s m args below meth c D A nL cells slots Q (wl kc ad X B th ov hw) pc ls (.ref (ad (19 + i)) :: st) :=
  x_get0 M TB 6 (wl_lab hi) (by decide) rfl hlk hdg kk
theorem gL7 (M : CallFix p m c cc nL s args gw own) (TB : x_TB D kc A s s.heap) {index i : Nat} (hi : i < 12) (hlk : Cond.fieldLink own index (TX0 7).1 (TX0 7).2.1 (TX0 7).2.2.1 ∈ gw) (hdg : decode cc pc = .ok (.getfield index, 3)) (kk : x_X p l e R s m args below meth c D A nL cells slots Q (wl kc ad X B th ov hw) (pc + 3) ls (.int (nI (X 7 i)) :: st)) : x_X p l e R s m args below meth c D A nL cells slots Q (wl kc ad X B th ov hw) pc ls (.ref (ad (19 + i)) :: st) :=
  x_get0 M TB 7 (wl_lab hi) (by decide) rfl hlk hdg kk
theorem gY0 (M : CallFix p m c cc nL s args gw own) (TB : x_TB D kc A s s.heap) {index : Nat} (hlk : Cond.fieldLink own index (TX1 0).1 (TX1 0).2.1 (TX1 0).2.2.1 ∈ gw) (hdg : decode cc pc = .ok (.getfield index, 3)) (kk : x_X p l e R s m args below meth c D A nL cells slots Q (wl kc ad X B th ov hw) (pc + 3) ls (.ref (ad 4) :: st)) : x_X p l e R s m args below meth c D A nL cells slots Q (wl kc ad X B th ov hw) pc ls (.ref (ad 3) :: st) :=
  x_get1 M TB 0 (wl_at (c := 3) (by decide)) (by decide) rfl hlk hdg kk
theorem gY1 (M : CallFix p m c cc nL s args gw own) (TB : x_TB D kc A s s.heap) {index : Nat} (hlk : Cond.fieldLink own index (TX1 1).1 (TX1 1).2.1 (TX1 1).2.2.1 ∈ gw) (hdg : decode cc pc = .ok (.getfield index, 3)) (kk : x_X p l e R s m args below meth c D A nL cells slots Q (wl kc ad X B th ov hw) (pc + 3) ls (.ref (ad 5) :: st)) : x_X p l e R s m args below meth c D A nL cells slots Q (wl kc ad X B th ov hw) pc ls (.ref (ad 3) :: st) :=
  x_get1 M TB 1 (wl_at (c := 3) (by decide)) (by decide) rfl hlk hdg kk
theorem gM0 (M : CallFix p m c cc nL s args gw own) (TB : x_TB D kc A s s.heap) {index : Nat} (hlk : Cond.fieldLink own index (TX3 0).1 (TX3 0).2.1 (TX3 0).2.2.1 ∈ gw) (hdg : decode cc pc = .ok (.getfield index, 3)) (kk : x_X p l e R s m args below meth c D A nL cells slots Q (wl kc ad X B th ov hw) (pc + 3) ls (.int (nI th) :: st)) : x_X p l e R s m args below meth c D A nL cells slots Q (wl kc ad X B th ov hw) pc ls (.ref (ad 6) :: st) :=
  x_get3 M TB 0 (wl_at (c := 6) (by decide)) (by decide) rfl hlk hdg kk
theorem gM1 (M : CallFix p m c cc nL s args gw own) (TB : x_TB D kc A s s.heap) {index : Nat} (hlk : Cond.fieldLink own index (TX3 1).1 (TX3 1).2.1 (TX3 1).2.2.1 ∈ gw) (hdg : decode cc pc = .ok (.getfield index, 3)) (kk : x_X p l e R s m args below meth c D A nL cells slots Q (wl kc ad X B th ov hw) (pc + 3) ls (.int (nI (B 0 1)) :: st)) : x_X p l e R s m args below meth c D A nL cells slots Q (wl kc ad X B th ov hw) pc ls (.ref (ad 6) :: st) :=
  x_get3 M TB 1 (wl_at (c := 6) (by decide)) (by decide) rfl hlk hdg kk
theorem gM2 (M : CallFix p m c cc nL s args gw own) (TB : x_TB D kc A s s.heap) {index : Nat} (hlk : Cond.fieldLink own index (TX3 2).1 (TX3 2).2.1 (TX3 2).2.2.1 ∈ gw) (hdg : decode cc pc = .ok (.getfield index, 3)) (kk : x_X p l e R s m args below meth c D A nL cells slots Q (wl kc ad X B th ov hw) (pc + 3) ls (.int (nI (B 0 2)) :: st)) : x_X p l e R s m args below meth c D A nL cells slots Q (wl kc ad X B th ov hw) pc ls (.ref (ad 6) :: st) :=
  x_get3 M TB 2 (wl_at (c := 6) (by decide)) (by decide) rfl hlk hdg kk
theorem gM3 (M : CallFix p m c cc nL s args gw own) (TB : x_TB D kc A s s.heap) {index : Nat} (hlk : Cond.fieldLink own index (TX3 3).1 (TX3 3).2.1 (TX3 3).2.2.1 ∈ gw) (hdg : decode cc pc = .ok (.getfield index, 3)) (kk : x_X p l e R s m args below meth c D A nL cells slots Q (wl kc ad X B th ov hw) (pc + 3) ls (.ref (ad 7) :: st)) : x_X p l e R s m args below meth c D A nL cells slots Q (wl kc ad X B th ov hw) pc ls (.ref (ad 6) :: st) :=
  x_get3 M TB 3 (wl_at (c := 6) (by decide)) (by decide) rfl hlk hdg kk
theorem gM4 (M : CallFix p m c cc nL s args gw own) (TB : x_TB D kc A s s.heap) {index : Nat} (hlk : Cond.fieldLink own index (TX3 4).1 (TX3 4).2.1 (TX3 4).2.2.1 ∈ gw) (hdg : decode cc pc = .ok (.getfield index, 3)) (kk : x_X p l e R s m args below meth c D A nL cells slots Q (wl kc ad X B th ov hw) (pc + 3) ls (.int (nI (B 0 0)) :: st)) : x_X p l e R s m args below meth c D A nL cells slots Q (wl kc ad X B th ov hw) pc ls (.ref (ad 6) :: st) :=
  x_get3 M TB 4 (wl_at (c := 6) (by decide)) (by decide) rfl hlk hdg kk
theorem gM5 (M : CallFix p m c cc nL s args gw own) (TB : x_TB D kc A s s.heap) {index : Nat} (hlk : Cond.fieldLink own index (TX3 5).1 (TX3 5).2.1 (TX3 5).2.2.1 ∈ gw) (hdg : decode cc pc = .ok (.getfield index, 3)) (kk : x_X p l e R s m args below meth c D A nL cells slots Q (wl kc ad X B th ov hw) (pc + 3) ls (.ref (ad 8) :: st)) : x_X p l e R s m args below meth c D A nL cells slots Q (wl kc ad X B th ov hw) pc ls (.ref (ad 6) :: st) :=
  x_get3 M TB 5 (wl_at (c := 6) (by decide)) (by decide) rfl hlk hdg kk
theorem gM6 (M : CallFix p m c cc nL s args gw own) (TB : x_TB D kc A s s.heap) {index : Nat} (hlk : Cond.fieldLink own index (TX3 6).1 (TX3 6).2.1 (TX3 6).2.2.1 ∈ gw) (hdg : decode cc pc = .ok (.getfield index, 3)) (kk : x_X p l e R s m args below meth c D A nL cells slots Q (wl kc ad X B th ov hw) (pc + 3) ls (.ref (ad 9) :: st)) : x_X p l e R s m args below meth c D A nL cells slots Q (wl kc ad X B th ov hw) pc ls (.ref (ad 6) :: st) :=
  x_get3 M TB 6 (wl_at (c := 6) (by decide)) (by decide) rfl hlk hdg kk
theorem gM7 (M : CallFix p m c cc nL s args gw own) (TB : x_TB D kc A s s.heap) {index : Nat} (hlk : Cond.fieldLink own index (TX3 7).1 (TX3 7).2.1 (TX3 7).2.2.1 ∈ gw) (hdg : decode cc pc = .ok (.getfield index, 3)) (kk : x_X p l e R s m args below meth c D A nL cells slots Q (wl kc ad X B th ov hw) (pc + 3) ls (.ref (ad 10) :: st)) : x_X p l e R s m args below meth c D A nL cells slots Q (wl kc ad X B th ov hw) pc ls (.ref (ad 6) :: st) :=
  x_get3 M TB 7 (wl_at (c := 6) (by decide)) (by decide) rfl hlk hdg kk
theorem gM8 (M : CallFix p m c cc nL s args gw own) (TB : x_TB D kc A s s.heap) {index : Nat} (hlk : Cond.fieldLink own index (TX3 8).1 (TX3 8).2.1 (TX3 8).2.2.1 ∈ gw) (hdg : decode cc pc = .ok (.getfield index, 3)) (kk : x_X p l e R s m args below meth c D A nL cells slots Q (wl kc ad X B th ov hw) (pc + 3) ls (.ref (ad 11) :: st)) : x_X p l e R s m args below meth c D A nL cells slots Q (wl kc ad X B th ov hw) pc ls (.ref (ad 6) :: st) :=
  x_get3 M TB 8 (wl_at (c := 6) (by decide)) (by decide) rfl hlk hdg kk
theorem gM9 (M : CallFix p m c cc nL s args gw own) (TB : x_TB D kc A s s.heap) {index : Nat} (hlk : Cond.fieldLink own index (TX3 9).1 (TX3 9).2.1 (TX3 9).2.2.1 ∈ gw) (hdg : decode cc pc = .ok (.getfield index, 3)) (kk : x_X p l e R s m args below meth c D A nL cells slots Q (wl kc ad X B th ov hw) (pc + 3) ls (.ref (ad 12) :: st)) : x_X p l e R s m args below meth c D A nL cells slots Q (wl kc ad X B th ov hw) pc ls (.ref (ad 6) :: st) :=
  x_get3 M TB 9 (wl_at (c := 6) (by decide)) (by decide) rfl hlk hdg kk
theorem gM10 (M : CallFix p m c cc nL s args gw own) (TB : x_TB D kc A s s.heap) {index : Nat} (hlk : Cond.fieldLink own index (TX3 10).1 (TX3 10).2.1 (TX3 10).2.2.1 ∈ gw) (hdg : decode cc pc = .ok (.getfield index, 3)) (kk : x_X p l e R s m args below meth c D A nL cells slots Q (wl kc ad X B th ov hw) (pc + 3) ls (.ref (ad 13) :: st)) : x_X p l e R s m args below meth c D A nL cells slots Q (wl kc ad X B th ov hw) pc ls (.ref (ad 6) :: st) :=
  x_get3 M TB 10 (wl_at (c := 6) (by decide)) (by decide) rfl hlk hdg kk
theorem gM11 (M : CallFix p m c cc nL s args gw own) (TB : x_TB D kc A s s.heap) {index : Nat} (hlk : Cond.fieldLink own index (TX3 11).1 (TX3 11).2.1 (TX3 11).2.2.1 ∈ gw) (hdg : decode cc pc = .ok (.getfield index, 3)) (kk : x_X p l e R s m args below meth c D A nL cells slots Q (wl kc ad X B th ov hw) (pc + 3) ls (.ref (ad 14) :: st)) : x_X p l e R s m args below meth c D A nL cells slots Q (wl kc ad X B th ov hw) pc ls (.ref (ad 6) :: st) :=
  x_get3 M TB 11 (wl_at (c := 6) (by decide)) (by decide) rfl hlk hdg kk
theorem gM12 (M : CallFix p m c cc nL s args gw own) (TB : x_TB D kc A s s.heap) {index : Nat} (hlk : Cond.fieldLink own index (TX3 12).1 (TX3 12).2.1 (TX3 12).2.2.1 ∈ gw) (hdg : decode cc pc = .ok (.getfield index, 3)) (kk : x_X p l e R s m args below meth c D A nL cells slots Q (wl kc ad X B th ov hw) (pc + 3) ls (.ref (ad 15) :: st)) : x_X p l e R s m args below meth c D A nL cells slots Q (wl kc ad X B th ov hw) pc ls (.ref (ad 6) :: st) :=
  x_get3 M TB 12 (wl_at (c := 6) (by decide)) (by decide) rfl hlk hdg kk
theorem gM13 (M : CallFix p m c cc nL s args gw own) (TB : x_TB D kc A s s.heap) {index : Nat} (hlk : Cond.fieldLink own index (TX3 13).1 (TX3 13).2.1 (TX3 13).2.2.1 ∈ gw) (hdg : decode cc pc = .ok (.getfield index, 3)) (kk : x_X p l e R s m args below meth c D A nL cells slots Q (wl kc ad X B th ov hw) (pc + 3) ls (.ref (ad 16) :: st)) : x_X p l e R s m args below meth c D A nL cells slots Q (wl kc ad X B th ov hw) pc ls (.ref (ad 6) :: st) :=
  x_get3 M TB 13 (wl_at (c := 6) (by decide)) (by decide) rfl hlk hdg kk
theorem gM14 (M : CallFix p m c cc nL s args gw own) (TB : x_TB D kc A s s.heap) {index : Nat} (hlk : Cond.fieldLink own index (TX3 14).1 (TX3 14).2.1 (TX3 14).2.2.1 ∈ gw) (hdg : decode cc pc = .ok (.getfield index, 3)) (kk : x_X p l e R s m args below meth c D A nL cells slots Q (wl kc ad X B th ov hw) (pc + 3) ls (.ref (ad 17) :: st)) : x_X p l e R s m args below meth c D A nL cells slots Q (wl kc ad X B th ov hw) pc ls (.ref (ad 6) :: st) :=
  x_get3 M TB 14 (wl_at (c := 6) (by decide)) (by decide) rfl hlk hdg kk
theorem pX3 (M : CallFix p m c cc nL s args gw own) (TB : x_TB D kc A s s.heap) {index v : Nat} (hlk : Cond.fieldLink own index (TX2 3).1 (TX2 3).2.1 (TX2 3).2.2.1 ∈ gw) (hdg : decode cc pc = .ok (.putfield index, 3)) (kk : x_X p l e R s m args below meth c D A nL cells slots Q (wl kc ad (up X 0 0 v) B th ov hw) (pc + 3) ls st) : x_X p l e R s m args below meth c D A nL cells slots Q (wl kc ad X B th ov hw) pc ls (.int (nI v) :: .ref (ad 0) :: st) :=
  x_put2 M TB 3 (wl_at (c := 0) (by decide)) (by decide) (by show 3 < 6; decide) rfl (by decide +kernel) hlk hdg (x_ws (wl_set (c := 0) (by decide) rfl cu_A0) kk)
theorem pX4 (M : CallFix p m c cc nL s args gw own) (TB : x_TB D kc A s s.heap) {index v : Nat} (hlk : Cond.fieldLink own index (TX2 4).1 (TX2 4).2.1 (TX2 4).2.2.1 ∈ gw) (hdg : decode cc pc = .ok (.putfield index, 3)) (kk : x_X p l e R s m args below meth c D A nL cells slots Q (wl kc ad (up X 0 1 v) B th ov hw) (pc + 3) ls st) : x_X p l e R s m args below meth c D A nL cells slots Q (wl kc ad X B th ov hw) pc ls (.int (nI v) :: .ref (ad 0) :: st) :=
  x_put2 M TB 4 (wl_at (c := 0) (by decide)) (by decide) (by show 4 < 6; decide) rfl (by decide +kernel) hlk hdg (x_ws (wl_set (c := 0) (by decide) rfl cu_A0) kk)
theorem pX5 (M : CallFix p m c cc nL s args gw own) (TB : x_TB D kc A s s.heap) {index v : Nat} (hlk : Cond.fieldLink own index (TX2 5).1 (TX2 5).2.1 (TX2 5).2.2.1 ∈ gw) (hdg : decode cc pc = .ok (.putfield index, 3)) (kk : x_X p l e R s m args below meth c D A nL cells slots Q (wl kc ad (up X 0 2 v) B th ov hw) (pc + 3) ls st) : x_X p l e R s m args below meth c D A nL cells slots Q (wl kc ad X B th ov hw) pc ls (.int (nI v) :: .ref (ad 0) :: st) :=
  x_put2 M TB 5 (wl_at (c := 0) (by decide)) (by decide) (by show 5 < 6; decide) rfl (by decide +kernel) hlk hdg (x_ws (wl_set (c := 0) (by decide) rfl cu_A0) kk)
theorem pL0 (M : CallFix p m c cc nL s args gw own) (TB : x_TB D kc A s s.heap) {index i v : Nat} (hi : i < 12) (hlk : Cond.fieldLink own index (TX0 0).1 (TX0 0).2.1 (TX0 0).2.2.1 ∈ gw) (hdg : decode cc pc = .ok (.putfield index, 3)) (kk : x_X p l e R s m args below meth c D A nL cells slots Q (wl kc ad (up X 2 i v) B th ov hw) (pc + 3) ls st) : x_X p l e R s m args below meth c D A nL cells slots Q (wl kc ad X B th ov hw) pc ls (.int (nI v) :: .ref (ad (19 + i)) :: st) :=
  x_put0 M TB 0 (wl_lab hi) (by decide) (by show 0 < 8; decide) rfl (by decide +kernel) hlk hdg (x_ws (wl_set (c := 19 + i) (by omega) (by rw [ct_lab hi]; unfold fL; rw [up_s]; rfl) cu_A2) kk)
theorem pL1 (M : CallFix p m c cc nL s args gw own) (TB : x_TB D kc A s s.heap) {index i v : Nat} (hi : i < 12) (hlk : Cond.fieldLink own index (TX0 1).1 (TX0 1).2.1 (TX0 1).2.2.1 ∈ gw) (hdg : decode cc pc = .ok (.putfield index, 3)) (kk : x_X p l e R s m args below meth c D A nL cells slots Q (wl kc ad (up X 3 i v) B th ov hw) (pc + 3) ls st) : x_X p l e R s m args below meth c D A nL cells slots Q (wl kc ad X B th ov hw) pc ls (.int (nI v) :: .ref (ad (19 + i)) :: st) :=
  x_put0 M TB 1 (wl_lab hi) (by decide) (by show 1 < 8; decide) rfl (by decide +kernel) hlk hdg (x_ws (wl_set (c := 19 + i) (by omega) (by rw [ct_lab hi]; unfold fL; rw [up_s]; rfl) cu_A3) kk)
theorem pL2 (M : CallFix p m c cc nL s args gw own) (TB : x_TB D kc A s s.heap) {index i v : Nat} (hi : i < 12) (hlk : Cond.fieldLink own index (TX0 2).1 (TX0 2).2.1 (TX0 2).2.2.1 ∈ gw) (hdg : decode cc pc = .ok (.putfield index, 3)) (kk : x_X p l e R s m args below meth c D A nL cells slots Q (wl kc ad (up X 4 i v) B th ov hw) (pc + 3) ls st) : x_X p l e R s m args below meth c D A nL cells slots Q (wl kc ad X B th ov hw) pc ls (.int (nI v) :: .ref (ad (19 + i)) :: st) :=
  x_put0 M TB 2 (wl_lab hi) (by decide) (by show 2 < 8; decide) rfl (by decide +kernel) hlk hdg (x_ws (wl_set (c := 19 + i) (by omega) (by rw [ct_lab hi]; unfold fL; rw [up_s]; rfl) cu_A4) kk)
theorem pL3 (M : CallFix p m c cc nL s args gw own) (TB : x_TB D kc A s s.heap) {index i v : Nat} (hi : i < 12) (hlk : Cond.fieldLink own index (TX0 3).1 (TX0 3).2.1 (TX0 3).2.2.1 ∈ gw) (hdg : decode cc pc = .ok (.putfield index, 3)) (kk : x_X p l e R s m args below meth c D A nL cells slots Q (wl kc ad (up X 5 i v) B th ov hw) (pc + 3) ls st) : x_X p l e R s m args below meth c D A nL cells slots Q (wl kc ad X B th ov hw) pc ls (.int (nI v) :: .ref (ad (19 + i)) :: st) :=
  x_put0 M TB 3 (wl_lab hi) (by decide) (by show 3 < 8; decide) rfl (by decide +kernel) hlk hdg (x_ws (wl_set (c := 19 + i) (by omega) (by rw [ct_lab hi]; unfold fL; rw [up_s]; rfl) cu_A5) kk)
theorem pL4 (M : CallFix p m c cc nL s args gw own) (TB : x_TB D kc A s s.heap) {index i v : Nat} {x : Int32} (hi : i < 12) (hx : eo v = x) (hlk : Cond.fieldLink own index (TX0 4).1 (TX0 4).2.1 (TX0 4).2.2.1 ∈ gw) (hdg : decode cc pc = .ok (.putfield index, 3)) (kk : x_X p l e R s m args below meth c D A nL cells slots Q (wl kc ad (up X 8 i v) B th ov hw) (pc + 3) ls st) : x_X p l e R s m args below meth c D A nL cells slots Q (wl kc ad X B th ov hw) pc ls (.int x :: .ref (ad (19 + i)) :: st) :=
  x_put0 M TB 4 (wl_lab hi) (by decide) (by show 4 < 8; decide) rfl (by decide +kernel) hlk hdg (x_ws (wl_set (c := 19 + i) (by omega) (by rw [ct_lab hi]; unfold fL; rw [up_s, hx]; rfl) cu_A8) kk)
theorem pL5 (M : CallFix p m c cc nL s args gw own) (TB : x_TB D kc A s s.heap) {index i v : Nat} (hi : i < 12) (hlk : Cond.fieldLink own index (TX0 5).1 (TX0 5).2.1 (TX0 5).2.2.1 ∈ gw) (hdg : decode cc pc = .ok (.putfield index, 3)) (kk : x_X p l e R s m args below meth c D A nL cells slots Q (wl kc ad (up X 9 i v) B th ov hw) (pc + 3) ls st) : x_X p l e R s m args below meth c D A nL cells slots Q (wl kc ad X B th ov hw) pc ls (.int (nI v) :: .ref (ad (19 + i)) :: st) :=
  x_put0 M TB 5 (wl_lab hi) (by decide) (by show 5 < 8; decide) rfl (by decide +kernel) hlk hdg (x_ws (wl_set (c := 19 + i) (by omega) (by rw [ct_lab hi]; unfold fL; rw [up_s]; rfl) cu_A9) kk)
theorem pL6 (M : CallFix p m c cc nL s args gw own) (TB : x_TB D kc A s s.heap) {index i v : Nat} (hi : i < 12) (hlk : Cond.fieldLink own index (TX0 6).1 (TX0 6).2.1 (TX0 6).2.2.1 ∈ gw) (hdg : decode cc pc = .ok (.putfield index, 3)) (kk : x_X p l e R s m args below meth c D A nL cells slots Q (wl kc ad (up X 6 i v) B th ov hw) (pc + 3) ls st) : x_X p l e R s m args below meth c D A nL cells slots Q (wl kc ad X B th ov hw) pc ls (.int (nI v) :: .ref (ad (19 + i)) :: st) :=
  x_put0 M TB 6 (wl_lab hi) (by decide) (by show 6 < 8; decide) rfl (by decide +kernel) hlk hdg (x_ws (wl_set (c := 19 + i) (by omega) (by rw [ct_lab hi]; unfold fL; rw [up_s]; rfl) cu_A6) kk)
theorem pL7 (M : CallFix p m c cc nL s args gw own) (TB : x_TB D kc A s s.heap) {index i v : Nat} (hi : i < 12) (hlk : Cond.fieldLink own index (TX0 7).1 (TX0 7).2.1 (TX0 7).2.2.1 ∈ gw) (hdg : decode cc pc = .ok (.putfield index, 3)) (kk : x_X p l e R s m args below meth c D A nL cells slots Q (wl kc ad (up X 7 i v) B th ov hw) (pc + 3) ls st) : x_X p l e R s m args below meth c D A nL cells slots Q (wl kc ad X B th ov hw) pc ls (.int (nI v) :: .ref (ad (19 + i)) :: st) :=
  x_put0 M TB 7 (wl_lab hi) (by decide) (by show 7 < 8; decide) rfl (by decide +kernel) hlk hdg (x_ws (wl_set (c := 19 + i) (by omega) (by rw [ct_lab hi]; unfold fL; rw [up_s]; rfl) cu_A7) kk)
theorem pM0 (M : CallFix p m c cc nL s args gw own) (TB : x_TB D kc A s s.heap) {index th2 : Nat} (hlk : Cond.fieldLink own index (TX3 0).1 (TX3 0).2.1 (TX3 0).2.2.1 ∈ gw) (hdg : decode cc pc = .ok (.putfield index, 3)) (kk : x_X p l e R s m args below meth c D A nL cells slots Q (wl kc ad X B th2 ov hw) (pc + 3) ls st) : x_X p l e R s m args below meth c D A nL cells slots Q (wl kc ad X B th ov hw) pc ls (.int (nI th2) :: .ref (ad 6) :: st) :=
  x_put3 M TB 0 (wl_at (c := 6) (by decide)) (by decide) (by show 0 < 15; decide) rfl (by decide +kernel) hlk hdg (x_ws (wl_set (c := 6) (by decide) rfl cu_th) kk)
theorem pM1 (M : CallFix p m c cc nL s args gw own) (TB : x_TB D kc A s s.heap) {index v : Nat} (hlk : Cond.fieldLink own index (TX3 1).1 (TX3 1).2.1 (TX3 1).2.2.1 ∈ gw) (hdg : decode cc pc = .ok (.putfield index, 3)) (kk : x_X p l e R s m args below meth c D A nL cells slots Q (wl kc ad X (up B 0 1 v) th ov hw) (pc + 3) ls st) : x_X p l e R s m args below meth c D A nL cells slots Q (wl kc ad X B th ov hw) pc ls (.int (nI v) :: .ref (ad 6) :: st) :=
  x_put3 M TB 1 (wl_at (c := 6) (by decide)) (by decide) (by show 1 < 15; decide) rfl (by decide +kernel) hlk hdg (x_ws (wl_set (c := 6) (by decide) rfl cu_B0) kk)
theorem pM2 (M : CallFix p m c cc nL s args gw own) (TB : x_TB D kc A s s.heap) {index v : Nat} (hlk : Cond.fieldLink own index (TX3 2).1 (TX3 2).2.1 (TX3 2).2.2.1 ∈ gw) (hdg : decode cc pc = .ok (.putfield index, 3)) (kk : x_X p l e R s m args below meth c D A nL cells slots Q (wl kc ad X (up B 0 2 v) th ov hw) (pc + 3) ls st) : x_X p l e R s m args below meth c D A nL cells slots Q (wl kc ad X B th ov hw) pc ls (.int (nI v) :: .ref (ad 6) :: st) :=
  x_put3 M TB 2 (wl_at (c := 6) (by decide)) (by decide) (by show 2 < 15; decide) rfl (by decide +kernel) hlk hdg (x_ws (wl_set (c := 6) (by decide) rfl cu_B0) kk)
theorem pM4 (M : CallFix p m c cc nL s args gw own) (TB : x_TB D kc A s s.heap) {index v : Nat} (hlk : Cond.fieldLink own index (TX3 4).1 (TX3 4).2.1 (TX3 4).2.2.1 ∈ gw) (hdg : decode cc pc = .ok (.putfield index, 3)) (kk : x_X p l e R s m args below meth c D A nL cells slots Q (wl kc ad X (up B 0 0 v) th ov hw) (pc + 3) ls st) : x_X p l e R s m args below meth c D A nL cells slots Q (wl kc ad X B th ov hw) pc ls (.int (nI v) :: .ref (ad 6) :: st) :=
  x_put3 M TB 4 (wl_at (c := 6) (by decide)) (by decide) (by show 4 < 15; decide) rfl (by decide +kernel) hlk hdg (x_ws (wl_set (c := 6) (by decide) rfl cu_B0) kk)
theorem aP (M : CallFix p m c cc nL s args gw own) (TB : x_TB D kc A s s.heap) {j : Nat} (hj : j < 12) (hdg : decode cc pc = .ok (.iaload, 1)) (kk : x_X p l e R s m args below meth c D A nL cells slots Q (wl kc ad X B th ov hw) (pc + 1) ls (.int (nI (X 1 j)) :: st)) : x_X p l e R s m args below meth c D A nL cells slots Q (wl kc ad X B th ov hw) pc ls (.int (nI j) :: .ref (ad 1) :: st) :=
  x_iald M TB (f := fun j => nI (X 1 j)) (wl_at (c := 1) (by decide)) hj (by decide) hdg kk
theorem aE (M : CallFix p m c cc nL s args gw own) (TB : x_TB D kc A s s.heap) {j : Nat} (hj : j < 12) (hdg : decode cc pc = .ok (.iaload, 1)) (kk : x_X p l e R s m args below meth c D A nL cells slots Q (wl kc ad X B th ov hw) (pc + 1) ls (.int (nI (X 11 j)) :: st)) : x_X p l e R s m args below meth c D A nL cells slots Q (wl kc ad X B th ov hw) pc ls (.int (nI j) :: .ref (ad 5) :: st) :=
  x_iald M TB (f := fun j => nI (X 11 j)) (wl_at (c := 5) (by decide)) hj (by decide) hdg kk
theorem aM1 (M : CallFix p m c cc nL s args gw own) (TB : x_TB D kc A s s.heap) {j : Nat} (hj : j < 12) (hdg : decode cc pc = .ok (.iaload, 1)) (kk : x_X p l e R s m args below meth c D A nL cells slots Q (wl kc ad X B th ov hw) (pc + 1) ls (.int (nI (B 1 j)) :: st)) : x_X p l e R s m args below meth c D A nL cells slots Q (wl kc ad X B th ov hw) pc ls (.int (nI j) :: .ref (ad 7) :: st) :=
  x_iald M TB (f := fun j => nI (B 1 j)) (wl_at (c := 7) (by decide)) hj (by decide) hdg kk
theorem aM2 (M : CallFix p m c cc nL s args gw own) (TB : x_TB D kc A s s.heap) {j : Nat} (hj : j < 12) (hdg : decode cc pc = .ok (.iaload, 1)) (kk : x_X p l e R s m args below meth c D A nL cells slots Q (wl kc ad X B th ov hw) (pc + 1) ls (.int (nI (B 2 j)) :: st)) : x_X p l e R s m args below meth c D A nL cells slots Q (wl kc ad X B th ov hw) pc ls (.int (nI j) :: .ref (ad 8) :: st) :=
  x_iald M TB (f := fun j => nI (B 2 j)) (wl_at (c := 8) (by decide)) hj (by decide) hdg kk
theorem aM3 (M : CallFix p m c cc nL s args gw own) (TB : x_TB D kc A s s.heap) {j : Nat} (hj : j < 12) (hdg : decode cc pc = .ok (.iaload, 1)) (kk : x_X p l e R s m args below meth c D A nL cells slots Q (wl kc ad X B th ov hw) (pc + 1) ls (.int (nI (B 3 j)) :: st)) : x_X p l e R s m args below meth c D A nL cells slots Q (wl kc ad X B th ov hw) pc ls (.int (nI j) :: .ref (ad 9) :: st) :=
  x_iald M TB (f := fun j => nI (B 3 j)) (wl_at (c := 9) (by decide)) hj (by decide) hdg kk
theorem aM4 (M : CallFix p m c cc nL s args gw own) (TB : x_TB D kc A s s.heap) {j : Nat} (hj : j < 12) (hdg : decode cc pc = .ok (.iaload, 1)) (kk : x_X p l e R s m args below meth c D A nL cells slots Q (wl kc ad X B th ov hw) (pc + 1) ls (.int (nI (B 4 j)) :: st)) : x_X p l e R s m args below meth c D A nL cells slots Q (wl kc ad X B th ov hw) pc ls (.int (nI j) :: .ref (ad 10) :: st) :=
  x_iald M TB (f := fun j => nI (B 4 j)) (wl_at (c := 10) (by decide)) hj (by decide) hdg kk
theorem aM6 (M : CallFix p m c cc nL s args gw own) (TB : x_TB D kc A s s.heap) {j : Nat} (hj : j < 12) (hdg : decode cc pc = .ok (.iaload, 1)) (kk : x_X p l e R s m args below meth c D A nL cells slots Q (wl kc ad X B th ov hw) (pc + 1) ls (.int (nI (B 6 j)) :: st)) : x_X p l e R s m args below meth c D A nL cells slots Q (wl kc ad X B th ov hw) pc ls (.int (nI j) :: .ref (ad 12) :: st) :=
  x_iald M TB (f := fun j => nI (B 6 j)) (wl_at (c := 12) (by decide)) hj (by decide) hdg kk
theorem aM7 (M : CallFix p m c cc nL s args gw own) (TB : x_TB D kc A s s.heap) {j : Nat} (hj : j < 12) (hdg : decode cc pc = .ok (.iaload, 1)) (kk : x_X p l e R s m args below meth c D A nL cells slots Q (wl kc ad X B th ov hw) (pc + 1) ls (.int (nI (B 7 j)) :: st)) : x_X p l e R s m args below meth c D A nL cells slots Q (wl kc ad X B th ov hw) pc ls (.int (nI j) :: .ref (ad 13) :: st) :=
  x_iald M TB (f := fun j => nI (B 7 j)) (wl_at (c := 13) (by decide)) hj (by decide) hdg kk
theorem aM8 (M : CallFix p m c cc nL s args gw own) (TB : x_TB D kc A s s.heap) {j : Nat} (hj : j < 12) (hdg : decode cc pc = .ok (.iaload, 1)) (kk : x_X p l e R s m args below meth c D A nL cells slots Q (wl kc ad X B th ov hw) (pc + 1) ls (.int (nI (B 8 j)) :: st)) : x_X p l e R s m args below meth c D A nL cells slots Q (wl kc ad X B th ov hw) pc ls (.int (nI j) :: .ref (ad 14) :: st) :=
  x_iald M TB (f := fun j => nI (B 8 j)) (wl_at (c := 14) (by decide)) hj (by decide) hdg kk
theorem aM9 (M : CallFix p m c cc nL s args gw own) (TB : x_TB D kc A s s.heap) {j : Nat} (hj : j < 12) (hdg : decode cc pc = .ok (.iaload, 1)) (kk : x_X p l e R s m args below meth c D A nL cells slots Q (wl kc ad X B th ov hw) (pc + 1) ls (.int (nI (B 9 j)) :: st)) : x_X p l e R s m args below meth c D A nL cells slots Q (wl kc ad X B th ov hw) pc ls (.int (nI j) :: .ref (ad 15) :: st) :=
  x_iald M TB (f := fun j => nI (B 9 j)) (wl_at (c := 15) (by decide)) hj (by decide) hdg kk
theorem aM10 (M : CallFix p m c cc nL s args gw own) (TB : x_TB D kc A s s.heap) {j : Nat} (hj : j < 720) (hdg : decode cc pc = .ok (.iaload, 1)) (kk : x_X p l e R s m args below meth c D A nL cells slots Q (wl kc ad X B th ov hw) (pc + 1) ls (.int (em (B 10 j)) :: st)) : x_X p l e R s m args below meth c D A nL cells slots Q (wl kc ad X B th ov hw) pc ls (.int (nI j) :: .ref (ad 16) :: st) :=
  x_iald M TB (f := fun j => em (B 10 j)) (wl_at (c := 16) (by decide)) hj (by decide) hdg kk
theorem aM11 (M : CallFix p m c cc nL s args gw own) (TB : x_TB D kc A s s.heap) {j : Nat} (hj : j < 12) (hdg : decode cc pc = .ok (.iaload, 1)) (kk : x_X p l e R s m args below meth c D A nL cells slots Q (wl kc ad X B th ov hw) (pc + 1) ls (.int (em (B 11 j)) :: st)) : x_X p l e R s m args below meth c D A nL cells slots Q (wl kc ad X B th ov hw) pc ls (.int (nI j) :: .ref (ad 17) :: st) :=
  x_iald M TB (f := fun j => em (B 11 j)) (wl_at (c := 17) (by decide)) hj (by decide) hdg kk
theorem aM5 (M : CallFix p m c cc nL s args gw own) (TB : x_TB D kc A s s.heap) {j : Nat} (hj : j < 12) (hh : j < hw) (hdg : decode cc pc = .ok (.iaload, 1)) (kk : x_X p l e R s m args below meth c D A nL cells slots Q (wl kc ad X B th ov hw) (pc + 1) ls (.int (nI (B 5 j)) :: st)) : x_X p l e R s m args below meth c D A nL cells slots Q (wl kc ad X B th ov hw) pc ls (.int (nI j) :: .ref (ad 11) :: st) :=
  x_iald M TB (f := fun j => if j < hw then nI (B 5 j) else nI 0) (wl_at (c := 11) (by decide)) hj (by decide) hdg (by rw [if_pos hh]; exact kk)
theorem sM5 (M : CallFix p m c cc nL s args gw own) (TB : x_TB D kc A s s.heap) {j v : Nat} (hj : j < 12) (hh : j < hw) (hdg : decode cc pc = .ok (.iastore, 1)) (kk : x_X p l e R s m args below meth c D A nL cells slots Q (wl kc ad X (up B 5 j v) th ov hw) (pc + 1) ls st) : x_X p l e R s m args below meth c D A nL cells slots Q (wl kc ad X B th ov hw) pc ls (.int (nI v) :: .int (nI j) :: .ref (ad 11) :: st) :=
  x_iast M TB (f := fun j => if j < hw then nI (B 5 j) else nI 0) (wl_at (c := 11) (by decide)) hj (by decide) hdg (x_ws (wl_set (c := 11) (by decide) (congrArg (fun f => (Sum.inl (kc 0, 12, Sum.inl f) : va_E)) (funext fun k => by
    unfold upd up
    by_cases e : k = j
    · subst e
      simp [hh]
    · simp [e])) cu_B5) kk)
/-- the first battery of a label that is hung -/
theorem sM5n (M : CallFix p m c cc nL s args gw own) (TB : x_TB D kc A s s.heap) {v : Nat} (hj : hw < 12) (hv : B 5 hw = v) (hdg : decode cc pc = .ok (.iastore, 1)) (kk : x_X p l e R s m args below meth c D A nL cells slots Q (wl kc ad X B th ov (hw + 1)) (pc + 1) ls st) : x_X p l e R s m args below meth c D A nL cells slots Q (wl kc ad X B th ov hw) pc ls (.int (nI v) :: .int (nI hw) :: .ref (ad 11) :: st) :=
  x_iast M TB (f := fun j => if j < hw then nI (B 5 j) else nI 0) (wl_at (c := 11) (by decide)) hj (by decide) hdg (x_ws (wl_set (c := 11) (by decide) (congrArg (fun f => (Sum.inl (kc 0, 12, Sum.inl f) : va_E)) (funext fun k => by
    unfold upd
    by_cases e : k = hw
    · rw [if_pos e, if_pos (by omega), e, hv]
    · rw [if_neg e]
      show _ = (if k < hw then nI (B 5 k) else nI 0)
      by_cases e2 : k < hw
      · rw [if_pos e2, if_pos (by omega)]
      · rw [if_neg e2, if_neg (by omega)])) cu_hw) kk)
theorem aW (M : CallFix p m c cc nL s args gw own) (TB : x_TB D kc A s s.heap) {j r : Nat} (hr : r < 60) (hj : j < 12) (hdg : decode cc pc = .ok (.iaload, 1)) (kk : x_X p l e R s m args below meth c D A nL cells slots Q (wl kc ad X B th ov hw) (pc + 1) ls (.int (nI (X 10 (60 * j + r))) :: st)) : x_X p l e R s m args below meth c D A nL cells slots Q (wl kc ad X B th ov hw) pc ls (.int (nI j) :: .ref (ad (31 + r)) :: st) :=
  x_iald M TB (wl_row hr) hj (by decide) hdg kk
theorem aL (M : CallFix p m c cc nL s args gw own) (TB : x_TB D kc A s s.heap) {j : Nat} (hj : j < 12) (hdg : decode cc pc = .ok (.aaload, 1)) (kk : x_X p l e R s m args below meth c D A nL cells slots Q (wl kc ad X B th ov hw) (pc + 1) ls (.ref (ad (19 + j)) :: st)) : x_X p l e R s m args below meth c D A nL cells slots Q (wl kc ad X B th ov hw) pc ls (.int (nI j) :: .ref (ad 2) :: st) :=
  x_aald M TB (t0 := 2) (f := fun j => if j < 12 then some (ad (19 + j)) else none) (wl_at (c := 2) (by decide)) rfl rfl hj (by decide) hdg (by rw [if_pos hj]; exact kk)
theorem aO (M : CallFix p m c cc nL s args gw own) (TB : x_TB D kc A s s.heap) {j : Nat} (hj : j < 60) (hdg : decode cc pc = .ok (.aaload, 1)) (kk : x_X p l e R s m args below meth c D A nL cells slots Q (wl kc ad X B th ov hw) (pc + 1) ls (.ref (ad (31 + j)) :: st)) : x_X p l e R s m args below meth c D A nL cells slots Q (wl kc ad X B th ov hw) pc ls (.int (nI j) :: .ref (ad 4) :: st) :=
  x_aald M TB (t0 := 3) (f := fun j => if j < 60 then some (ad (31 + j)) else none) (wl_at (c := 4) (by decide)) rfl rfl hj (by decide) hdg (by rw [if_pos hj]; exact kk)
theorem aQ (M : CallFix p m c cc nL s args gw own) (TB : x_TB D kc A s s.heap) (hdg : decode cc pc = .ok (.laload, 1)) (kk : x_X p l e R s m args below meth c D A nL cells slots Q (wl kc ad X B th ov hw) (pc + 1) ls (.long ov :: st)) : x_X p l e R s m args below meth c D A nL cells slots Q (wl kc ad X B th ov hw) pc ls (.int (nI 0) :: .ref (ad 18) :: st) :=
  x_lald M TB (wl_at (c := 18) (by decide)) (by decide) (by decide) hdg kk
theorem sQ (M : CallFix p m c cc nL s args gw own) (TB : x_TB D kc A s s.heap) {x : Int64} (hdg : decode cc pc = .ok (.lastore, 1)) (kk : x_X p l e R s m args below meth c D A nL cells slots Q (wl kc ad X B th x hw) (pc + 1) ls st) : x_X p l e R s m args below meth c D A nL cells slots Q (wl kc ad X B th ov hw) pc ls (.long x :: .int (nI 0) :: .ref (ad 18) :: st) :=
  x_last M TB (f := fun j => if j = 0 then ov else 0) (wl_at (c := 18) (by decide)) (by decide) (by decide) hdg (x_ws (wl_set (c := 18) (by decide) (congrArg (fun f => (Sum.inl (kc 1, 1, Sum.inr (Sum.inl f)) : va_E)) (funext fun k => by
    show (if k = 0 then x else 0) = vp_updL _ 0 x k
    unfold vp_updL
    by_cases e : k = 0
    · rw [if_pos e, if_pos e]
    · rw [if_neg e, if_neg e]; exact (if_neg e).symm)) cu_ov) kk)
theorem sP (M : CallFix p m c cc nL s args gw own) (TB : x_TB D kc A s s.heap) {j v : Nat} (hj : j < 12) (hdg : decode cc pc = .ok (.iastore, 1)) (kk : x_X p l e R s m args below meth c D A nL cells slots Q (wl kc ad (up X 1 j v) B th ov hw) (pc + 1) ls st) : x_X p l e R s m args below meth c D A nL cells slots Q (wl kc ad X B th ov hw) pc ls (.int (nI v) :: .int (nI j) :: .ref (ad 1) :: st) :=
  x_iast M TB (f := fun j => nI (X 1 j)) (wl_at (c := 1) (by decide)) hj (by decide) hdg (x_ws (wl_set (c := 1) (by decide) (congrArg (fun f => (Sum.inl (kc 0, 12, Sum.inl f) : va_E)) (funext fun k => by
    unfold upd up
    by_cases e : k = j
    · rw [if_pos e, if_pos ⟨rfl, e⟩]
    · rw [if_neg e, if_neg (fun q => e q.2)])) cu_A1) kk)
theorem sE (M : CallFix p m c cc nL s args gw own) (TB : x_TB D kc A s s.heap) {j v : Nat} (hj : j < 12) (hdg : decode cc pc = .ok (.iastore, 1)) (kk : x_X p l e R s m args below meth c D A nL cells slots Q (wl kc ad (up X 11 j v) B th ov hw) (pc + 1) ls st) : x_X p l e R s m args below meth c D A nL cells slots Q (wl kc ad X B th ov hw) pc ls (.int (nI v) :: .int (nI j) :: .ref (ad 5) :: st) :=
  x_iast M TB (f := fun j => nI (X 11 j)) (wl_at (c := 5) (by decide)) hj (by decide) hdg (x_ws (wl_set (c := 5) (by decide) (congrArg (fun f => (Sum.inl (kc 0, 12, Sum.inl f) : va_E)) (funext fun k => by
    unfold upd up
    by_cases e : k = j
    · rw [if_pos e, if_pos ⟨rfl, e⟩]
    · rw [if_neg e, if_neg (fun q => e q.2)])) cu_A11) kk)
theorem sM1 (M : CallFix p m c cc nL s args gw own) (TB : x_TB D kc A s s.heap) {j v : Nat} (hj : j < 12) (hdg : decode cc pc = .ok (.iastore, 1)) (kk : x_X p l e R s m args below meth c D A nL cells slots Q (wl kc ad X (up B 1 j v) th ov hw) (pc + 1) ls st) : x_X p l e R s m args below meth c D A nL cells slots Q (wl kc ad X B th ov hw) pc ls (.int (nI v) :: .int (nI j) :: .ref (ad 7) :: st) :=
  x_iast M TB (f := fun j => nI (B 1 j)) (wl_at (c := 7) (by decide)) hj (by decide) hdg (x_ws (wl_set (c := 7) (by decide) (congrArg (fun f => (Sum.inl (kc 0, 12, Sum.inl f) : va_E)) (funext fun k => by
    unfold upd up
    by_cases e : k = j
    · rw [if_pos e, if_pos ⟨rfl, e⟩]
    · rw [if_neg e, if_neg (fun q => e q.2)])) cu_B1) kk)
theorem sM2 (M : CallFix p m c cc nL s args gw own) (TB : x_TB D kc A s s.heap) {j v : Nat} (hj : j < 12) (hdg : decode cc pc = .ok (.iastore, 1)) (kk : x_X p l e R s m args below meth c D A nL cells slots Q (wl kc ad X (up B 2 j v) th ov hw) (pc + 1) ls st) : x_X p l e R s m args below meth c D A nL cells slots Q (wl kc ad X B th ov hw) pc ls (.int (nI v) :: .int (nI j) :: .ref (ad 8) :: st) :=
  x_iast M TB (f := fun j => nI (B 2 j)) (wl_at (c := 8) (by decide)) hj (by decide) hdg (x_ws (wl_set (c := 8) (by decide) (congrArg (fun f => (Sum.inl (kc 0, 12, Sum.inl f) : va_E)) (funext fun k => by
    unfold upd up
    by_cases e : k = j
    · rw [if_pos e, if_pos ⟨rfl, e⟩]
    · rw [if_neg e, if_neg (fun q => e q.2)])) cu_B2) kk)
theorem sM3 (M : CallFix p m c cc nL s args gw own) (TB : x_TB D kc A s s.heap) {j v : Nat} (hj : j < 12) (hdg : decode cc pc = .ok (.iastore, 1)) (kk : x_X p l e R s m args below meth c D A nL cells slots Q (wl kc ad X (up B 3 j v) th ov hw) (pc + 1) ls st) : x_X p l e R s m args below meth c D A nL cells slots Q (wl kc ad X B th ov hw) pc ls (.int (nI v) :: .int (nI j) :: .ref (ad 9) :: st) :=
  x_iast M TB (f := fun j => nI (B 3 j)) (wl_at (c := 9) (by decide)) hj (by decide) hdg (x_ws (wl_set (c := 9) (by decide) (congrArg (fun f => (Sum.inl (kc 0, 12, Sum.inl f) : va_E)) (funext fun k => by
    unfold upd up
    by_cases e : k = j
    · rw [if_pos e, if_pos ⟨rfl, e⟩]
    · rw [if_neg e, if_neg (fun q => e q.2)])) cu_B3) kk)
theorem sM4 (M : CallFix p m c cc nL s args gw own) (TB : x_TB D kc A s s.heap) {j v : Nat} (hj : j < 12) (hdg : decode cc pc = .ok (.iastore, 1)) (kk : x_X p l e R s m args below meth c D A nL cells slots Q (wl kc ad X (up B 4 j v) th ov hw) (pc + 1) ls st) : x_X p l e R s m args below meth c D A nL cells slots Q (wl kc ad X B th ov hw) pc ls (.int (nI v) :: .int (nI j) :: .ref (ad 10) :: st) :=
  x_iast M TB (f := fun j => nI (B 4 j)) (wl_at (c := 10) (by decide)) hj (by decide) hdg (x_ws (wl_set (c := 10) (by decide) (congrArg (fun f => (Sum.inl (kc 0, 12, Sum.inl f) : va_E)) (funext fun k => by
    unfold upd up
    by_cases e : k = j
    · rw [if_pos e, if_pos ⟨rfl, e⟩]
    · rw [if_neg e, if_neg (fun q => e q.2)])) cu_B4) kk)
theorem sM6 (M : CallFix p m c cc nL s args gw own) (TB : x_TB D kc A s s.heap) {j v : Nat} (hj : j < 12) (hdg : decode cc pc = .ok (.iastore, 1)) (kk : x_X p l e R s m args below meth c D A nL cells slots Q (wl kc ad X (up B 6 j v) th ov hw) (pc + 1) ls st) : x_X p l e R s m args below meth c D A nL cells slots Q (wl kc ad X B th ov hw) pc ls (.int (nI v) :: .int (nI j) :: .ref (ad 12) :: st) :=
  x_iast M TB (f := fun j => nI (B 6 j)) (wl_at (c := 12) (by decide)) hj (by decide) hdg (x_ws (wl_set (c := 12) (by decide) (congrArg (fun f => (Sum.inl (kc 0, 12, Sum.inl f) : va_E)) (funext fun k => by
    unfold upd up
    by_cases e : k = j
    · rw [if_pos e, if_pos ⟨rfl, e⟩]
    · rw [if_neg e, if_neg (fun q => e q.2)])) cu_B6) kk)
theorem sM7 (M : CallFix p m c cc nL s args gw own) (TB : x_TB D kc A s s.heap) {j v : Nat} (hj : j < 12) (hdg : decode cc pc = .ok (.iastore, 1)) (kk : x_X p l e R s m args below meth c D A nL cells slots Q (wl kc ad X (up B 7 j v) th ov hw) (pc + 1) ls st) : x_X p l e R s m args below meth c D A nL cells slots Q (wl kc ad X B th ov hw) pc ls (.int (nI v) :: .int (nI j) :: .ref (ad 13) :: st) :=
  x_iast M TB (f := fun j => nI (B 7 j)) (wl_at (c := 13) (by decide)) hj (by decide) hdg (x_ws (wl_set (c := 13) (by decide) (congrArg (fun f => (Sum.inl (kc 0, 12, Sum.inl f) : va_E)) (funext fun k => by
    unfold upd up
    by_cases e : k = j
    · rw [if_pos e, if_pos ⟨rfl, e⟩]
    · rw [if_neg e, if_neg (fun q => e q.2)])) cu_B7) kk)
theorem sM8 (M : CallFix p m c cc nL s args gw own) (TB : x_TB D kc A s s.heap) {j v : Nat} (hj : j < 12) (hdg : decode cc pc = .ok (.iastore, 1)) (kk : x_X p l e R s m args below meth c D A nL cells slots Q (wl kc ad X (up B 8 j v) th ov hw) (pc + 1) ls st) : x_X p l e R s m args below meth c D A nL cells slots Q (wl kc ad X B th ov hw) pc ls (.int (nI v) :: .int (nI j) :: .ref (ad 14) :: st) :=
  x_iast M TB (f := fun j => nI (B 8 j)) (wl_at (c := 14) (by decide)) hj (by decide) hdg (x_ws (wl_set (c := 14) (by decide) (congrArg (fun f => (Sum.inl (kc 0, 12, Sum.inl f) : va_E)) (funext fun k => by
    unfold upd up
    by_cases e : k = j
    · rw [if_pos e, if_pos ⟨rfl, e⟩]
    · rw [if_neg e, if_neg (fun q => e q.2)])) cu_B8) kk)
theorem sM9 (M : CallFix p m c cc nL s args gw own) (TB : x_TB D kc A s s.heap) {j v : Nat} (hj : j < 12) (hdg : decode cc pc = .ok (.iastore, 1)) (kk : x_X p l e R s m args below meth c D A nL cells slots Q (wl kc ad X (up B 9 j v) th ov hw) (pc + 1) ls st) : x_X p l e R s m args below meth c D A nL cells slots Q (wl kc ad X B th ov hw) pc ls (.int (nI v) :: .int (nI j) :: .ref (ad 15) :: st) :=
  x_iast M TB (f := fun j => nI (B 9 j)) (wl_at (c := 15) (by decide)) hj (by decide) hdg (x_ws (wl_set (c := 15) (by decide) (congrArg (fun f => (Sum.inl (kc 0, 12, Sum.inl f) : va_E)) (funext fun k => by
    unfold upd up
    by_cases e : k = j
    · rw [if_pos e, if_pos ⟨rfl, e⟩]
    · rw [if_neg e, if_neg (fun q => e q.2)])) cu_B9) kk)
theorem sM10 (M : CallFix p m c cc nL s args gw own) (TB : x_TB D kc A s s.heap) {j v : Nat} {x : Int32} (hj : j < 720) (hx : em v = x) (hdg : decode cc pc = .ok (.iastore, 1)) (kk : x_X p l e R s m args below meth c D A nL cells slots Q (wl kc ad X (up B 10 j v) th ov hw) (pc + 1) ls st) : x_X p l e R s m args below meth c D A nL cells slots Q (wl kc ad X B th ov hw) pc ls (.int x :: .int (nI j) :: .ref (ad 16) :: st) :=
  x_iast M TB (f := fun j => em (B 10 j)) (wl_at (c := 16) (by decide)) hj (by decide) hdg (x_ws (wl_set (c := 16) (by decide) (congrArg (fun f => (Sum.inl (kc 0, 720, Sum.inl f) : va_E)) (funext fun k => by
    unfold upd up
    by_cases e : k = j
    · rw [if_pos e, if_pos ⟨rfl, e⟩]; exact hx
    · rw [if_neg e, if_neg (fun q => e q.2)])) cu_B10) kk)
theorem sM11 (M : CallFix p m c cc nL s args gw own) (TB : x_TB D kc A s s.heap) {j v : Nat} {x : Int32} (hj : j < 12) (hx : em v = x) (hdg : decode cc pc = .ok (.iastore, 1)) (kk : x_X p l e R s m args below meth c D A nL cells slots Q (wl kc ad X (up B 11 j v) th ov hw) (pc + 1) ls st) : x_X p l e R s m args below meth c D A nL cells slots Q (wl kc ad X B th ov hw) pc ls (.int x :: .int (nI j) :: .ref (ad 17) :: st) :=
  x_iast M TB (f := fun j => em (B 11 j)) (wl_at (c := 17) (by decide)) hj (by decide) hdg (x_ws (wl_set (c := 17) (by decide) (congrArg (fun f => (Sum.inl (kc 0, 12, Sum.inl f) : va_E)) (funext fun k => by
    unfold upd up
    by_cases e : k = j
    · rw [if_pos e, if_pos ⟨rfl, e⟩]; exact hx
    · rw [if_neg e, if_neg (fun q => e q.2)])) cu_B11) kk)
theorem sW (M : CallFix p m c cc nL s args gw own) (TB : x_TB D kc A s s.heap) {j r v : Nat} (hr : r < 60) (hj : j < 12) (hdg : decode cc pc = .ok (.iastore, 1)) (kk : x_X p l e R s m args below meth c D A nL cells slots Q (wl kc ad (up X 10 (60 * j + r) v) B th ov hw) (pc + 1) ls st) : x_X p l e R s m args below meth c D A nL cells slots Q (wl kc ad X B th ov hw) pc ls (.int (nI v) :: .int (nI j) :: .ref (ad (31 + r)) :: st) :=
  x_iast M TB (wl_row hr) hj (by decide) hdg (x_ws (wl_set (c := 31 + r) (by omega) (by
    rw [ct_row hr]
    refine congrArg (fun f => (Sum.inl (kc 0, 12, Sum.inl f) : va_E)) (funext fun k => ?_)
    unfold upd up
    by_cases e : k = j
    · rw [if_pos e, if_pos ⟨rfl, by omega⟩]
    · rw [if_neg e, if_neg (fun q => e (by omega))]) (cu_A10 hr)) kk)
end XV
end
section
/-! numbers: rows over nI; and what the shop does, on the state's registers: 0 (0 the labels' count, 1 the time, 2 the orders made), 1 prices, 2 wares, 3 shown, 4 ghosts, 5 batteries, 6 lost sendings, 7 lost answers, 8 orders (0: none), 9 dues, 10 the last hour (60 * ware + minute; 10000: none), 11 ever (10000: none) -/
section XN
variable {p : Program} {l : Launch} {e : Env} {R : Room} {s : State} {m : MethodId} {args : Array Value} {below : List Frame} {meth : Method} {c : Code} {D : va_G} {A : Nat → Prop} {nL cells slots : Nat} {Q : State → Prop}
variable {cc : ByteArray} {own : String} {ws : va_W} {pc : Nat} {ls : List (Option Value)} {st : List Value} {a b : Nat}
theorem n_add (M : CallFix p m c cc nL s args gw own) (hdg : decode cc pc = .ok (.iadd, 1)) (kk : x_X p l e R s m args below meth c D A nL cells slots Q ws (pc + 1) ls (.int (nI (a + b)) :: st)) : x_X p l e R s m args below meth c D A nL cells slots Q ws pc ls (.int (nI b) :: .int (nI a) :: st) := x_iadd M hdg (nI_add a b) kk
theorem n_sub (M : CallFix p m c cc nL s args gw own) (h : b ≤ a) (hdg : decode cc pc = .ok (.isub, 1)) (kk : x_X p l e R s m args below meth c D A nL cells slots Q ws (pc + 1) ls (.int (nI (a - b)) :: st)) : x_X p l e R s m args below meth c D A nL cells slots Q ws pc ls (.int (nI b) :: .int (nI a) :: st) := x_isub M hdg (pk_sub h) kk
theorem n_mul (M : CallFix p m c cc nL s args gw own) (hdg : decode cc pc = .ok (.imul, 1)) (kk : x_X p l e R s m args below meth c D A nL cells slots Q ws (pc + 1) ls (.int (nI (a * b)) :: st)) : x_X p l e R s m args below meth c D A nL cells slots Q ws pc ls (.int (nI b) :: .int (nI a) :: st) := x_imul M hdg (pk_mul a b) kk
theorem n_div (M : CallFix p m c cc nL s args gw own) (ha : a < 2 ^ 31) (h0 : 0 < b) (hb : b < 2 ^ 31) (hdg : decode cc pc = .ok (.idiv, 1)) (kk : x_X p l e R s m args below meth c D A nL cells slots Q ws (pc + 1) ls (.int (nI (a / b)) :: st)) : x_X p l e R s m args below meth c D A nL cells slots Q ws pc ls (.int (nI b) :: .int (nI a) :: st) := x_idiv M hdg (nI_ne0 h0 hb) (pk_div ha h0 hb) kk
theorem n_rem (M : CallFix p m c cc nL s args gw own) (ha : a < 2 ^ 31) (h0 : 0 < b) (hb : b < 2 ^ 31) (hdg : decode cc pc = .ok (.irem, 1)) (kk : x_X p l e R s m args below meth c D A nL cells slots Q ws (pc + 1) ls (.int (nI (a % b)) :: st)) : x_X p l e R s m args below meth c D A nL cells slots Q ws pc ls (.int (nI b) :: .int (nI a) :: st) := x_irem M hdg (nI_ne0 h0 hb) (pk_rem ha h0 hb) kk
theorem n_icmp_eq (M : CallFix p m c cc nL s args gw own) {off : Int} {tgt : Nat} (ha : a < 2 ^ 31) (hb : b < 2 ^ 31) (hdg : decode cc pc = .ok (.if_icmp .eq off, 3)) (ht : (pc : Int) + off = (tgt : Int)) (kt : a = b → x_X p l e R s m args below meth c D A nL cells slots Q ws tgt ls st) (kf : ¬ a = b → x_X p l e R s m args below meth c D A nL cells slots Q ws (pc + 3) ls st) : x_X p l e R s m args below meth c D A nL cells slots Q ws pc ls (.int (nI b) :: .int (nI a) :: st) :=
  x_icmp_eq M hdg ht (fun q => kt ((nI_eq ha hb).mp q)) (fun q => kf (fun h => q ((nI_eq ha hb).mpr h)))
theorem n_icmp_ne (M : CallFix p m c cc nL s args gw own) {off : Int} {tgt : Nat} (ha : a < 2 ^ 31) (hb : b < 2 ^ 31) (hdg : decode cc pc = .ok (.if_icmp .ne off, 3)) (ht : (pc : Int) + off = (tgt : Int)) (kt : ¬ a = b → x_X p l e R s m args below meth c D A nL cells slots Q ws tgt ls st) (kf : a = b → x_X p l e R s m args below meth c D A nL cells slots Q ws (pc + 3) ls st) : x_X p l e R s m args below meth c D A nL cells slots Q ws pc ls (.int (nI b) :: .int (nI a) :: st) :=
  x_icmp_ne M hdg ht (fun q => kt (fun h => q ((nI_eq ha hb).mpr h))) (fun q => kf ((nI_eq ha hb).mp q))
theorem n_icmp_lt (M : CallFix p m c cc nL s args gw own) {off : Int} {tgt : Nat} (ha : a < 2 ^ 31) (hb : b < 2 ^ 31) (hdg : decode cc pc = .ok (.if_icmp .lt off, 3)) (ht : (pc : Int) + off = (tgt : Int)) (kt : a < b → x_X p l e R s m args below meth c D A nL cells slots Q ws tgt ls st) (kf : b ≤ a → x_X p l e R s m args below meth c D A nL cells slots Q ws (pc + 3) ls st) : x_X p l e R s m args below meth c D A nL cells slots Q ws pc ls (.int (nI b) :: .int (nI a) :: st) :=
  x_icmp_lt M hdg ht (fun q => kt ((nI_ltI ha hb).mp q)) (fun q => kf (Nat.le_of_not_lt (fun h => q ((nI_ltI ha hb).mpr h))))
theorem n_icmp_ge (M : CallFix p m c cc nL s args gw own) {off : Int} {tgt : Nat} (ha : a < 2 ^ 31) (hb : b < 2 ^ 31) (hdg : decode cc pc = .ok (.if_icmp .ge off, 3)) (ht : (pc : Int) + off = (tgt : Int)) (kt : b ≤ a → x_X p l e R s m args below meth c D A nL cells slots Q ws tgt ls st) (kf : a < b → x_X p l e R s m args below meth c D A nL cells slots Q ws (pc + 3) ls st) : x_X p l e R s m args below meth c D A nL cells slots Q ws pc ls (.int (nI b) :: .int (nI a) :: st) :=
  x_icmp_ge M hdg ht (fun q => kt ((nI_leI hb ha).mp q)) (fun q => kf (Nat.lt_of_not_le (fun h => q ((nI_leI hb ha).mpr h))))
theorem n_icmp_gt (M : CallFix p m c cc nL s args gw own) {off : Int} {tgt : Nat} (ha : a < 2 ^ 31) (hb : b < 2 ^ 31) (hdg : decode cc pc = .ok (.if_icmp .gt off, 3)) (ht : (pc : Int) + off = (tgt : Int)) (kt : b < a → x_X p l e R s m args below meth c D A nL cells slots Q ws tgt ls st) (kf : a ≤ b → x_X p l e R s m args below meth c D A nL cells slots Q ws (pc + 3) ls st) : x_X p l e R s m args below meth c D A nL cells slots Q ws pc ls (.int (nI b) :: .int (nI a) :: st) :=
  x_icmp_gt M hdg ht (fun q => kt ((nI_ltI hb ha).mp q)) (fun q => kf (Nat.le_of_not_lt (fun h => q ((nI_ltI hb ha).mpr h))))
theorem n_icmp_le (M : CallFix p m c cc nL s args gw own) {off : Int} {tgt : Nat} (ha : a < 2 ^ 31) (hb : b < 2 ^ 31) (hdg : decode cc pc = .ok (.if_icmp .le off, 3)) (ht : (pc : Int) + off = (tgt : Int)) (kt : a ≤ b → x_X p l e R s m args below meth c D A nL cells slots Q ws tgt ls st) (kf : b < a → x_X p l e R s m args below meth c D A nL cells slots Q ws (pc + 3) ls st) : x_X p l e R s m args below meth c D A nL cells slots Q ws pc ls (.int (nI b) :: .int (nI a) :: st) :=
  x_icmp_le M hdg ht (fun q => kt ((nI_leI ha hb).mp q)) (fun q => kf (Nat.lt_of_not_le (fun h => q ((nI_leI ha hb).mpr h))))
theorem n_if_eq (M : CallFix p m c cc nL s args gw own) {off : Int} {tgt : Nat} (ha : a < 2 ^ 31) (hdg : decode cc pc = .ok (.ifCond .eq off, 3)) (ht : (pc : Int) + off = (tgt : Int)) (kt : a = 0 → x_X p l e R s m args below meth c D A nL cells slots Q ws tgt ls st) (kf : ¬ a = 0 → x_X p l e R s m args below meth c D A nL cells slots Q ws (pc + 3) ls st) : x_X p l e R s m args below meth c D A nL cells slots Q ws pc ls (.int (nI a) :: st) :=
  x_if_eq M hdg ht (fun q => kt ((nI_eq ha (by decide)).mp (q.trans nI_0.symm))) (fun q => kf (fun h => q (by rw [h]; exact nI_0)))
theorem n_if_ne (M : CallFix p m c cc nL s args gw own) {off : Int} {tgt : Nat} (ha : a < 2 ^ 31) (hdg : decode cc pc = .ok (.ifCond .ne off, 3)) (ht : (pc : Int) + off = (tgt : Int)) (kt : ¬ a = 0 → x_X p l e R s m args below meth c D A nL cells slots Q ws tgt ls st) (kf : a = 0 → x_X p l e R s m args below meth c D A nL cells slots Q ws (pc + 3) ls st) : x_X p l e R s m args below meth c D A nL cells slots Q ws pc ls (.int (nI a) :: st) :=
  x_if_ne M hdg ht (fun q => kt (fun h => q (by rw [h]; exact nI_0))) (fun q => kf ((nI_eq ha (by decide)).mp (q.trans nI_0.symm)))
theorem n_if_lt (M : CallFix p m c cc nL s args gw own) {off : Int} {tgt : Nat} (ha : a < 2 ^ 31) (hdg : decode cc pc = .ok (.ifCond .lt off, 3)) (ht : (pc : Int) + off = (tgt : Int)) (kt : False → x_X p l e R s m args below meth c D A nL cells slots Q ws tgt ls st) (kf : True → x_X p l e R s m args below meth c D A nL cells slots Q ws (pc + 3) ls st) : x_X p l e R s m args below meth c D A nL cells slots Q ws pc ls (.int (nI a) :: st) :=
  x_if_lt M hdg ht (fun q => kt (absurd q (nI_pos ha))) (fun q => kf (trivial))
theorem n_if_ge (M : CallFix p m c cc nL s args gw own) {off : Int} {tgt : Nat} (ha : a < 2 ^ 31) (hdg : decode cc pc = .ok (.ifCond .ge off, 3)) (ht : (pc : Int) + off = (tgt : Int)) (kt : True → x_X p l e R s m args below meth c D A nL cells slots Q ws tgt ls st) (kf : False → x_X p l e R s m args below meth c D A nL cells slots Q ws (pc + 3) ls st) : x_X p l e R s m args below meth c D A nL cells slots Q ws pc ls (.int (nI a) :: st) :=
  x_if_ge M hdg ht (fun q => kt (trivial)) (fun q => kf (absurd (nI_pos' ha) q))
theorem n_if_gt (M : CallFix p m c cc nL s args gw own) {off : Int} {tgt : Nat} (ha : a < 2 ^ 31) (hdg : decode cc pc = .ok (.ifCond .gt off, 3)) (ht : (pc : Int) + off = (tgt : Int)) (kt : 0 < a → x_X p l e R s m args below meth c D A nL cells slots Q ws tgt ls st) (kf : a = 0 → x_X p l e R s m args below meth c D A nL cells slots Q ws (pc + 3) ls st) : x_X p l e R s m args below meth c D A nL cells slots Q ws pc ls (.int (nI a) :: st) :=
  x_if_gt M hdg ht (fun q => kt (by have h := (nI_ltI (by decide) ha).mp (show nI 0 < nI a from by rw [nI_0]; exact q); omega)) (fun q => kf (by rcases Nat.eq_zero_or_pos a with h | h; exact h; exact absurd (show (0 : Int32) < nI a from by rw [← nI_0]; exact nI_lt h ha) q))
theorem n_if_le (M : CallFix p m c cc nL s args gw own) {off : Int} {tgt : Nat} (ha : a < 2 ^ 31) (hdg : decode cc pc = .ok (.ifCond .le off, 3)) (ht : (pc : Int) + off = (tgt : Int)) (kt : a = 0 → x_X p l e R s m args below meth c D A nL cells slots Q ws tgt ls st) (kf : 0 < a → x_X p l e R s m args below meth c D A nL cells slots Q ws (pc + 3) ls st) : x_X p l e R s m args below meth c D A nL cells slots Q ws pc ls (.int (nI a) :: st) :=
  x_if_le M hdg ht (fun q => kt (by rcases Nat.eq_zero_or_pos a with h | h; exact h; exact absurd q (nI_nle h ha))) (fun q => kf (by rcases Nat.eq_zero_or_pos a with h | h; exact absurd (show nI a ≤ 0 from by rw [h, nI_0]; decide) q; exact h))
theorem b_if_eq (M : CallFix p m c cc nL s args gw own) {P : Prop} [Decidable P] {off : Int} {tgt : Nat} (hdg : decode cc pc = .ok (.ifCond .eq off, 3)) (ht : (pc : Int) + off = (tgt : Int)) (kt : ¬ P → x_X p l e R s m args below meth c D A nL cells slots Q ws tgt ls st) (kf : P → x_X p l e R s m args below meth c D A nL cells slots Q ws (pc + 3) ls st) : x_X p l e R s m args below meth c D A nL cells slots Q ws pc ls (.int (if P then 1 else 0) :: st) :=
  x_if_eq M hdg ht (fun q => kt (fun h => by rw [if_pos h] at q; exact absurd q (by decide))) (fun q => kf (by by_cases h : P; exact h; exact absurd (if_neg h) q))
theorem b_if_ne (M : CallFix p m c cc nL s args gw own) {P : Prop} [Decidable P] {off : Int} {tgt : Nat} (hdg : decode cc pc = .ok (.ifCond .ne off, 3)) (ht : (pc : Int) + off = (tgt : Int)) (kt : P → x_X p l e R s m args below meth c D A nL cells slots Q ws tgt ls st) (kf : ¬ P → x_X p l e R s m args below meth c D A nL cells slots Q ws (pc + 3) ls st) : x_X p l e R s m args below meth c D A nL cells slots Q ws pc ls (.int (if P then 1 else 0) :: st) :=
  x_if_ne M hdg ht (fun q => kt (by by_cases h : P; exact h; exact absurd (if_neg h) q)) (fun q => kf (fun h => by rw [if_pos h] at q; exact absurd q (by decide)))
theorem n_inc0 (M : CallFix p m c cc nL s args gw own) {t : List (Option Value)} (hdg : decode cc pc = .ok (.iinc 0 1, 3)) (kk : x_X p l e R s m args below meth c D A nL cells slots Q ws (pc + 3) (some (.int (nI (a + 1))) :: t) st) : x_X p l e R s m args below meth c D A nL cells slots Q ws pc (some (.int (nI a)) :: t) st := x_iinc0 M hdg (nI_1 a) kk
theorem n_inc1 (M : CallFix p m c cc nL s args gw own) {b0 : Option Value} {t : List (Option Value)} (hdg : decode cc pc = .ok (.iinc 1 1, 3)) (kk : x_X p l e R s m args below meth c D A nL cells slots Q ws (pc + 3) (b0 :: some (.int (nI (a + 1))) :: t) st) : x_X p l e R s m args below meth c D A nL cells slots Q ws pc (b0 :: some (.int (nI a)) :: t) st := x_iinc1 M hdg (nI_1 a) kk
theorem n_inc2 (M : CallFix p m c cc nL s args gw own) {b0 b1 : Option Value} {t : List (Option Value)} (hdg : decode cc pc = .ok (.iinc 2 1, 3)) (kk : x_X p l e R s m args below meth c D A nL cells slots Q ws (pc + 3) (b0 :: b1 :: some (.int (nI (a + 1))) :: t) st) : x_X p l e R s m args below meth c D A nL cells slots Q ws pc (b0 :: b1 :: some (.int (nI a)) :: t) st := x_iinc2 M hdg (nI_1 a) kk
theorem n_inc3 (M : CallFix p m c cc nL s args gw own) {b0 b1 b2 : Option Value} {t : List (Option Value)} (hdg : decode cc pc = .ok (.iinc 3 1, 3)) (kk : x_X p l e R s m args below meth c D A nL cells slots Q ws (pc + 3) (b0 :: b1 :: b2 :: some (.int (nI (a + 1))) :: t) st) : x_X p l e R s m args below meth c D A nL cells slots Q ws pc (b0 :: b1 :: b2 :: some (.int (nI a)) :: t) st := x_iinc3 M hdg (nI_1 a) kk
theorem n_inc4 (M : CallFix p m c cc nL s args gw own) {b0 b1 b2 b3 : Option Value} {t : List (Option Value)} (hdg : decode cc pc = .ok (.iinc 4 1, 3)) (kk : x_X p l e R s m args below meth c D A nL cells slots Q ws (pc + 3) (b0 :: b1 :: b2 :: b3 :: some (.int (nI (a + 1))) :: t) st) : x_X p l e R s m args below meth c D A nL cells slots Q ws pc (b0 :: b1 :: b2 :: b3 :: some (.int (nI a)) :: t) st := x_iinc4 M hdg (nI_1 a) kk
theorem n_inc5 (M : CallFix p m c cc nL s args gw own) {b0 b1 b2 b3 b4 : Option Value} {t : List (Option Value)} (hdg : decode cc pc = .ok (.iinc 5 1, 3)) (kk : x_X p l e R s m args below meth c D A nL cells slots Q ws (pc + 3) (b0 :: b1 :: b2 :: b3 :: b4 :: some (.int (nI (a + 1))) :: t) st) : x_X p l e R s m args below meth c D A nL cells slots Q ws pc (b0 :: b1 :: b2 :: b3 :: b4 :: some (.int (nI a)) :: t) st := x_iinc5 M hdg (nI_1 a) kk
theorem n_inc6 (M : CallFix p m c cc nL s args gw own) {b0 b1 b2 b3 b4 b5 : Option Value} {t : List (Option Value)} (hdg : decode cc pc = .ok (.iinc 6 1, 3)) (kk : x_X p l e R s m args below meth c D A nL cells slots Q ws (pc + 3) (b0 :: b1 :: b2 :: b3 :: b4 :: b5 :: some (.int (nI (a + 1))) :: t) st) : x_X p l e R s m args below meth c D A nL cells slots Q ws pc (b0 :: b1 :: b2 :: b3 :: b4 :: b5 :: some (.int (nI a)) :: t) st := x_iinc6 M hdg (nI_1 a) kk
theorem n_inc4_3 (M : CallFix p m c cc nL s args gw own) {b0 b1 b2 b3 : Option Value} {t : List (Option Value)} (hdg : decode cc pc = .ok (.iinc 4 3, 3)) (kk : x_X p l e R s m args below meth c D A nL cells slots Q ws (pc + 3) (b0 :: b1 :: b2 :: b3 :: some (.int (nI (a + 3))) :: t) st) : x_X p l e R s m args below meth c D A nL cells slots Q ws pc (b0 :: b1 :: b2 :: b3 :: some (.int (nI a)) :: t) st := x_iinc4 M hdg (nI_add a 3) kk
end XN
def Bd (S : St) : Prop := ∀ r i, S r i < 2 ^ 30
abbrev due (S : St) (i : Nat) : Prop := S 8 i ≠ 0 ∧ S 9 i ≤ S 0 1
abbrev bef (S : St) (i j : Nat) : Prop := S 9 i < S 9 j ∨ (S 9 i = S 9 j ∧ S 8 i < S 8 j)
/-- which of the first k labels is sent to next -/
def nxt (S : St) : Nat → Option Nat
  | 0 => none
  | k + 1 => match nxt S k with
    | none => if due S k then some k else none
    | some j => if due S k ∧ bef S k j then some k else some j
def oI (o : Option Nat) : Int32 := match o with
  | none => -1
  | some i => nI i
def gets (S : St) (i : Nat) : St := up (up (up S 0 2 (S 0 2 + 1)) 8 i (S 0 2 + 1)) 9 i (S 0 1)
/-- a new price: the orders of the first k labels -/
def spl (S : St) (w : Nat) : Nat → St × Nat
  | 0 => (S, 0)
  | k + 1 => if S 2 k = w then (gets (spl S w k).1 k, (spl S w k).2 + 1) else spl S w k
def dg1 (a b u : Nat) : Nat := if a / u % 10 = b / u % 10 then 0 else 1
def digs (a b : Nat) : Nat := dg1 a b 1 + dg1 a b 10 + dg1 a b 100 + dg1 a b 1000
def redr (S : St) (i : Nat) : St :=
  if digs (S 3 i) (S 1 (S 2 i)) = 0 then S
  else if 9 < S 4 i + digs (S 3 i) (S 1 (S 2 i)) then up (up (up S 5 i (S 5 i - 20)) 4 i 0) 3 i (S 1 (S 2 i))
  else up (up (up S 5 i (S 5 i - 10)) 4 i (S 4 i + digs (S 3 i) (S 1 (S 2 i)))) 3 i (S 1 (S 2 i))
def answ (S : St) (i : Nat) : St := if 0 < S 7 i then up S 7 i (S 7 i - 1) else up S 8 i 0
def sen1 (S : St) (i : Nat) : St := if 0 < S 6 i then up S 6 i (S 6 i - 1) else if 20 ≤ S 5 i then answ (redr S i) i else S
def sen (S : St) (i : Nat) : St := sen1 (up S 9 i (S 0 1 + 5)) i
/-- the least price that the first k labels show for w now -/
def lnow (S : St) (w : Nat) : Nat → Nat
  | 0 => 10000
  | k + 1 => if S 2 k = w then min (lnow S w k) (S 3 k) else lnow S w k
/-- the end of a minute, as far as the first k labels -/
def xem (S : St) (k : Nat) : St := fun r i => if r = 5 then (if i < k then S 5 i - 1 else S 5 i)
  else if r = 10 then (if i < 720 ∧ i % 60 = S 0 1 % 60 then lnow S (i / 60) k else S 10 i)
  else if r = 11 then (if i < 12 then min (S 11 i) (lnow S i k) else S 11 i) else S r i
def slot (S : St) : St × Nat := match nxt S (S 0 0) with
  | none => (S, 0)
  | some i => (sen S i, 1)
def tick (S : St) : St := up S 0 1 (S 0 1 + 1)
def mnt (S : St) : St × Nat := (xem (slot (slot (tick S)).1).1 (S 0 0), (slot (tick S)).2 + (slot (slot (tick S)).1).2)
def mnts (S : St) : Nat → St × Nat
  | 0 => (S, 0)
  | k + 1 => ((mnt (mnts S k).1).1, (mnts S k).2 + (mnt (mnts S k).1).2)
def cnt (S : St) : Nat → Nat
  | 0 => 0
  | k + 1 => if S 8 k = 0 then cnt S k else cnt S k + 1
def lie (S : St) : Nat → Int32
  | 0 => nI 0
  | k + 1 => if S 3 k < S 1 (S 2 k) then lie S k ||| (nI 1 <<< (nI k &&& 31)) else lie S k
def lhr (S : St) (w : Nat) : Nat → Nat
  | 0 => 10000
  | k + 1 => min (lhr S w k) (S 10 (60 * w + k))
/-- an argument that is no number below n -/
def bad (n : Nat) (x : Int32) : Prop := ¬ (¬ x < 0 ∧ x < nI n)
theorem bad_or (n : Nat) (hn : n < 2 ^ 31) (x : Int32) : (∃ j : Nat, j < n ∧ x = nI j) ∨ bad n x := by
  rcases pk_ix x hn with h | h | h
  · exact Or.inr (fun q => q.1 h)
  · exact Or.inr (fun q => Int32.lt_irrefl (Int32.lt_of_lt_of_le q.2 h))
  · exact Or.inl h
theorem bad_no {n j : Nat} (hn : n < 2 ^ 31) (h : j < n) : ¬ bad n (nI j) := fun q => q ⟨nI_pos (by omega), nI_lt h hn⟩
end
section
theorem up_id (S : St) {r i v : Nat} (h : v = S r i) : up S r i v = S := by
  funext a b
  unfold up
  split
  · rename_i q; rw [q.1, q.2, h]
  · rfl
/-! calls that make nothing; the world's objects as receivers; orders as the class holds them; what a throw needs of the tables -/
section XZ
variable {p : Program} {l : Launch} {e : Env} {R : Room} {s : State} {m : MethodId} {args : Array Value} {below : List Frame} {meth : Method} {c : Code} {D : va_G} {A : Nat → Prop} {nL cells slots : Nat} {Q : State → Prop}
variable {cc : ByteArray} {own : String} {ws w2 : va_W} {pc : Nat} {ls : List (Option Value)} {rest : List Value} {kc : Nat → ClassId}
theorem x_callV0 (M : CallFix p m c cc nL s args gw own) (TB : x_TB D kc A s s.heap) (hAA : ∀ q : Nat, s.heap.size ≤ q → A q) {y : MethodName} {bytes : ByteArray} {maxL index b q0 ci : Nat} {ret : Option FieldType} {rm : Room} {st : List Value} {As : List Value} {v : Option Value} {fs : List Value} {qv : vw_C} (mv : x_MV y bytes maxL ret As.length)
    (hlk : Cond.methodLink own index y ∈ gw) (hdg : decode cc pc = .ok (.invokevirtual index, 3)) (hM : x_Ret l D kc A y bytes maxL ret rm (.ref b :: As) ws v w2) (hst0 : As.reverse ++ .ref b :: rest = st) (he : ws[q0]? = some (b, .inr (ci, fs))) (hc : vwCl[ci]? = some qv) (hC : qv.1 = y.cls)
    (hR : rm.frames + 1 ≤ R.frames ∧ 8 + (maxL + 11) + rm.locals ≤ R.locals) (hcs : (rm.cells = 0 ∧ rm.slots = 0) ∧ (cells ≤ R.cells ∧ slots ≤ R.slots)) (hst : (rest.map fun v => v.category).sum ≤ 8)
    (kk : x_X p l e R s m args below meth c D A nL cells slots Q w2 (pc + 3) ls (v.toList ++ rest)) : x_X p l e R s m args below meth c D A nL cells slots Q ws pc ls st :=
  x_callV M TB hAA mv hlk hdg hM hst0 he hc hC hR (by rw [hcs.1.1, hcs.1.2]; exact hcs.2) hst (by rw [hcs.1.1, hcs.1.2]; exact kk)
theorem x_callS0 (M : CallFix p m c cc nL s args gw own) (TB : x_TB D kc A s s.heap) (hAA : ∀ q : Nat, s.heap.size ≤ q → A q) {y : MethodName} {bytes : ByteArray} {maxL index : Nat} {ret : Option FieldType} {rm : Room} {st : List Value} {As : List Value} {v : Option Value} (mv : x_MS y bytes maxL ret As.length)
    (hlk : Cond.methodLink own index y ∈ gw) (hdg : decode cc pc = .ok (.invokestatic index, 3)) (hM : x_Ret l D kc A y bytes maxL ret rm As ws v w2) (hst0 : As.reverse ++ rest = st)
    (hR : rm.frames + 1 ≤ R.frames ∧ 8 + (maxL + 11) + rm.locals ≤ R.locals) (hcs : (rm.cells = 0 ∧ rm.slots = 0) ∧ (cells ≤ R.cells ∧ slots ≤ R.slots)) (hst : (rest.map fun v => v.category).sum ≤ 8)
    (kk : x_X p l e R s m args below meth c D A nL cells slots Q w2 (pc + 3) ls (v.toList ++ rest)) : x_X p l e R s m args below meth c D A nL cells slots Q ws pc ls st :=
  x_callS M TB hAA mv hlk hdg hM hst0 hR (by rw [hcs.1.1, hcs.1.2]; exact hcs.2) hst (by rw [hcs.1.1, hcs.1.2]; exact kk)
theorem nI_m1 {v : Nat} (h : v < 2 ^ 31) : ¬ nI v = -1 := fun q => by
  have h1 := nI_toInt h
  rw [q] at h1
  have h2 : ((-1 : Int32)).toInt = -1 := by decide
  omega
theorem eo_m1 {v : Nat} (h : v < 2 ^ 31) : eo v = -1 ↔ v = 0 := by
  unfold eo
  by_cases e : v = 0
  · rw [if_pos e]; exact ⟨fun _ => e, fun _ => rfl⟩
  · rw [if_neg e]; exact ⟨fun q => absurd q (nI_m1 h), fun q => absurd q e⟩
theorem eo_n {v : Nat} (h : v ≠ 0) : eo v = nI v := if_neg h
theorem em_n {v : Nat} (h : v ≠ 10000) : em v = nI v := if_neg h
theorem e_icmp_eq (M : CallFix p m c cc nL s args gw own) {v : Nat} {off : Int} {tgt : Nat} {st : List Value} (hv : v < 2 ^ 31) (hdg : decode cc pc = .ok (.if_icmp .eq off, 3)) (ht : (pc : Int) + off = (tgt : Int)) (kt : v = 0 → x_X p l e R s m args below meth c D A nL cells slots Q ws tgt ls st) (kf : ¬ v = 0 → x_X p l e R s m args below meth c D A nL cells slots Q ws (pc + 3) ls st) : x_X p l e R s m args below meth c D A nL cells slots Q ws pc ls (.int (-1) :: .int (eo v) :: st) :=
  x_icmp_eq M hdg ht (fun q => kt ((eo_m1 hv).mp q)) (fun q => kf (fun h => q ((eo_m1 hv).mpr h)))
theorem wl_X {ad : Nat → Nat} {X B : St} {th : Nat} {ov : Int64} {hw : Nat} : (wl kc ad X B th ov hw)[0]? = some (ad 0, .inr (2, fX ad X)) := wl_at (by decide)
theorem wl_Y {ad : Nat → Nat} {X B : St} {th : Nat} {ov : Int64} {hw : Nat} : (wl kc ad X B th ov hw)[3]? = some (ad 3, .inr (1, [.ref (ad 4), .ref (ad 5)])) := wl_at (by decide)
theorem wl_M {ad : Nat → Nat} {X B : St} {th : Nat} {ov : Int64} {hw : Nat} : (wl kc ad X B th ov hw)[6]? = some (ad 6, .inr (3, fM ad B th)) := wl_at (by decide)
theorem gL4n {ad : Nat → Nat} {X B : St} {th : Nat} {ov : Int64} {hw : Nat} {st : List Value} (M : CallFix p m c cc nL s args gw own) (TB : x_TB D kc A s s.heap) {index i : Nat} (hi : i < 12) (h : X 8 i ≠ 0) (hlk : Cond.fieldLink own index (TX0 4).1 (TX0 4).2.1 (TX0 4).2.2.1 ∈ gw) (hdg : decode cc pc = .ok (.getfield index, 3)) (kk : x_X p l e R s m args below meth c D A nL cells slots Q (wl kc ad X B th ov hw) (pc + 3) ls (.int (nI (X 8 i)) :: st)) : x_X p l e R s m args below meth c D A nL cells slots Q (wl kc ad X B th ov hw) pc ls (.ref (ad (19 + i)) :: st) :=
  gL4 M TB hi hlk hdg (by rw [eo_n h]; exact kk)
end XZ
theorem kwi_IO : Cond.initialized x_IO ∈ gw := kw_25
set_option maxRecDepth 20000 in
theorem at0_IO_117 : ∀ w ∈ (vx_atS RX2 117 x_IO ["java/lang/RuntimeException", "java/lang/Exception"]).filter goodWord, w ∈ lw_tbl := by decide +kernel
theorem at1_IO_117 : ∀ w ∈ (vx_atS RX2 117 x_IO ["java/lang/RuntimeException", "java/lang/Exception"]).filter goodWord, w ∈ gw := fun w hw => List.mem_filter.mpr ⟨at0_IO_117 w hw, (List.mem_filter.mp hw).2⟩
set_option maxRecDepth 20000 in
theorem at2_IO_117 : ∀ w ∈ (vx_atS RX2 117 x_IO ["java/lang/RuntimeException", "java/lang/Exception"]).filter (fun w => !goodWord w), w ∈ x_xw x_IO := by decide +kernel
set_option maxRecDepth 20000 in
theorem at3_IO_117 : ∀ w ∈ Cond.classLink RX2 113 x_IO :: Cond.initialized x_IO :: vx_atS RX2 117 x_IO ["java/lang/RuntimeException", "java/lang/Exception"], vx_ot w = true := by decide +kernel
theorem kwi_IA : Cond.initialized x_IA ∈ gw := kw_26
set_option maxRecDepth 20000 in
theorem at0_IA_122 : ∀ w ∈ (vx_atS RX2 122 x_IA ["java/lang/RuntimeException", "java/lang/Exception"]).filter goodWord, w ∈ lw_tbl := by decide +kernel
theorem at1_IA_122 : ∀ w ∈ (vx_atS RX2 122 x_IA ["java/lang/RuntimeException", "java/lang/Exception"]).filter goodWord, w ∈ gw := fun w hw => List.mem_filter.mpr ⟨at0_IA_122 w hw, (List.mem_filter.mp hw).2⟩
set_option maxRecDepth 20000 in
theorem at2_IA_122 : ∀ w ∈ (vx_atS RX2 122 x_IA ["java/lang/RuntimeException", "java/lang/Exception"]).filter (fun w => !goodWord w), w ∈ x_xw x_IA := by decide +kernel
set_option maxRecDepth 20000 in
theorem at3_IA_122 : ∀ w ∈ Cond.classLink RX2 118 x_IA :: Cond.initialized x_IA :: vx_atS RX2 122 x_IA ["java/lang/RuntimeException", "java/lang/Exception"], vx_ot w = true := by decide +kernel
theorem kwi_IS : Cond.initialized x_IS ∈ gw := kw_27
set_option maxRecDepth 20000 in
theorem at0_IS_56 : ∀ w ∈ (vx_atS RX2 56 x_IS ["java/lang/RuntimeException", "java/lang/Exception"]).filter goodWord, w ∈ lw_tbl := by decide +kernel
theorem at1_IS_56 : ∀ w ∈ (vx_atS RX2 56 x_IS ["java/lang/RuntimeException", "java/lang/Exception"]).filter goodWord, w ∈ gw := fun w hw => List.mem_filter.mpr ⟨at0_IS_56 w hw, (List.mem_filter.mp hw).2⟩
set_option maxRecDepth 20000 in
theorem at2_IS_56 : ∀ w ∈ (vx_atS RX2 56 x_IS ["java/lang/RuntimeException", "java/lang/Exception"]).filter (fun w => !goodWord w), w ∈ x_xw x_IS := by decide +kernel
set_option maxRecDepth 20000 in
theorem at3_IS_56 : ∀ w ∈ Cond.classLink RX2 52 x_IS :: Cond.initialized x_IS :: vx_atS RX2 56 x_IS ["java/lang/RuntimeException", "java/lang/Exception"], vx_ot w = true := by decide +kernel
end
section
/-! THE CLASS's METHODS, leaves -/
section XM
variable {l : Launch} {D : va_G} {kc : Nat → ClassId} {A : Nat → Prop} {ad : Nat → Nat} {X B : St} {th : Nat} {ov : Int64} {hw : Nat}
theorem mv_X2_needWare : x_MS yX2_needWare cX2_needWare 1 none 1 := ⟨kw_150, kw_17, ⟨by decide +kernel, by decide +kernel⟩, by decide +kernel, kw_149⟩
abbrev rm_X2_needWare : Room := { frames := 0, cells := 0, slots := 0, locals := 0 }
abbrev rt_X2_needWare : Room := { frames := 6, cells := 1, slots := 6, locals := 82 }
set_option maxRecDepth 20000 in
set_option maxHeartbeats 2000000 in
theorem c_needWare {j : Nat} (hj : j < 12) : x_Ret l D kc A yX2_needWare cX2_needWare 1 none rm_X2_needWare [.int (nI j)] (wl kc ad X B th ov hw) (none) (wl kc ad X B th ov hw) := by
  refine x_ret_of RX2 (by decide +kernel) rfl [some (.int (nI j))] (Nat.le_of_ble_eq_true rfl) rfl rfl ?_
  intro p e s m args below meth c M hr hlk hnm TB hAA
  refine x_iload0 M dX2_needWare_0 ?_
  refine n_if_lt (tgt := 10) M (by first | omega | exact hB _ _) dX2_needWare_1 (by decide) (fun q1 => q1.elim) (fun q1 => ?_)
  refine x_iload0 M dX2_needWare_4 ?_
  refine x_bipush (v := nI 12) M dX2_needWare_5 (by decide +kernel) ?_
  refine n_icmp_lt (tgt := 20) M (by first | omega | exact hB _ _) (by first | omega | exact hB _ _) dX2_needWare_7 (by decide) (fun q7 => ?_) (fun q7 => absurd hj (by omega))
  exact x_vret M hr hlk dX2_needWare_20 ⟨by decide, by decide⟩ rfl rfl
set_option maxRecDepth 20000 in
set_option maxHeartbeats 2000000 in
theorem t_needWare {x : Int32} (h : bad 12 x) (hst0 : l.stackTraces = false) : x_Thr l D kc A yX2_needWare cX2_needWare 1 none rt_X2_needWare [.int x] (wl kc ad X B th ov hw) x_IO := by
  refine x_thr_of RX2 (by decide +kernel) rfl [some (.int x)] (Nat.le_of_ble_eq_true rfl) rfl rfl ?_
  intro p e s m args below meth c M hr hlk hno TB hAA
  refine x_iload0 M dX2_needWare_0 ?_
  refine x_if_lt (tgt := 10) M dX2_needWare_1 (by decide) (fun q1 => ?_) (fun q1 => ?_)
  · exact x_throw M TB hst0 hno hlk (by decide +kernel) kw_151 kwi_IO TB.2.2.2.2.1 TB.2.2.1.1 at1_IO_117 at2_IO_117 at3_IO_117 dX2_needWare_10 dX2_needWare_13 dX2_needWare_14 dX2_needWare_16 dX2_needWare_19 ⟨by decide, by decide⟩ ⟨by decide, by decide⟩ ⟨by decide, by decide⟩
  · refine x_iload0 M dX2_needWare_4 ?_
    refine x_bipush (v := nI 12) M dX2_needWare_5 (by decide +kernel) ?_
    refine x_icmp_lt (tgt := 20) M dX2_needWare_7 (by decide) (fun q7 => (h ⟨q1, q7⟩).elim) (fun q7 => ?_)
    exact x_throw M TB hst0 hno hlk (by decide +kernel) kw_151 kwi_IO TB.2.2.2.2.1 TB.2.2.1.1 at1_IO_117 at2_IO_117 at3_IO_117 dX2_needWare_10 dX2_needWare_13 dX2_needWare_14 dX2_needWare_16 dX2_needWare_19 ⟨by decide, by decide⟩ ⟨by decide, by decide⟩ ⟨by decide, by decide⟩
theorem mv_X2_needWithin : x_MS yX2_needWithin cX2_needWithin 3 none 3 := ⟨kw_221, kw_17, ⟨by decide +kernel, by decide +kernel⟩, by decide +kernel, kw_220⟩
abbrev rm_X2_needWithin : Room := { frames := 0, cells := 0, slots := 0, locals := 0 }
abbrev rt_X2_needWithin : Room := { frames := 6, cells := 1, slots := 6, locals := 82 }
set_option maxRecDepth 20000 in
set_option maxHeartbeats 2000000 in
theorem c_needWithin {v lo hi : Nat} (h1 : lo ≤ v) (h2 : v ≤ hi) (h3 : hi < 2 ^ 31) : x_Ret l D kc A yX2_needWithin cX2_needWithin 3 none rm_X2_needWithin [.int (nI v), .int (nI lo), .int (nI hi)] (wl kc ad X B th ov hw) (none) (wl kc ad X B th ov hw) := by
  refine x_ret_of RX2 (by decide +kernel) rfl [some (.int (nI v)), some (.int (nI lo)), some (.int (nI hi))] (Nat.le_of_ble_eq_true rfl) rfl rfl ?_
  intro p e s m args below meth c M hr hlk hnm TB hAA
  refine x_iload0 M dX2_needWithin_0 ?_
  refine x_iload1 M dX2_needWithin_1 ?_
  refine n_icmp_lt (tgt := 10) M (by first | omega | exact hB _ _) (by first | omega | exact hB _ _) dX2_needWithin_2 (by decide) (fun q2 => absurd h1 (by omega)) (fun q2 => ?_)
  refine x_iload0 M dX2_needWithin_5 ?_
  refine x_iload2 M dX2_needWithin_6 ?_
  refine n_icmp_le (tgt := 20) M (by first | omega | exact hB _ _) (by first | omega | exact hB _ _) dX2_needWithin_7 (by decide) (fun q7 => ?_) (fun q7 => absurd h2 (by omega))
  exact x_vret M hr hlk dX2_needWithin_20 ⟨by decide, by decide⟩ rfl rfl
set_option maxRecDepth 20000 in
set_option maxHeartbeats 2000000 in
theorem t_needWithin {x : Int32} {lo hi : Nat} (h : ¬ (¬ x < nI lo ∧ x ≤ nI hi)) (hst0 : l.stackTraces = false) : x_Thr l D kc A yX2_needWithin cX2_needWithin 3 none rt_X2_needWithin [.int x, .int (nI lo), .int (nI hi)] (wl kc ad X B th ov hw) x_IA := by
  refine x_thr_of RX2 (by decide +kernel) rfl [some (.int x), some (.int (nI lo)), some (.int (nI hi))] (Nat.le_of_ble_eq_true rfl) rfl rfl ?_
  intro p e s m args below meth c M hr hlk hno TB hAA
  refine x_iload0 M dX2_needWithin_0 ?_
  refine x_iload1 M dX2_needWithin_1 ?_
  refine x_icmp_lt (tgt := 10) M dX2_needWithin_2 (by decide) (fun q2 => ?_) (fun q2 => ?_)
  · exact x_throw M TB hst0 hno hlk (by decide +kernel) kw_222 kwi_IA TB.2.2.2.2.2.1 TB.2.2.1.2.1 at1_IA_122 at2_IA_122 at3_IA_122 dX2_needWithin_10 dX2_needWithin_13 dX2_needWithin_14 dX2_needWithin_16 dX2_needWithin_19 ⟨by decide, by decide⟩ ⟨by decide, by decide⟩ ⟨by decide, by decide⟩
  · refine x_iload0 M dX2_needWithin_5 ?_
    refine x_iload2 M dX2_needWithin_6 ?_
    refine x_icmp_le (tgt := 20) M dX2_needWithin_7 (by decide) (fun q7 => (h ⟨q2, q7⟩).elim) (fun q7 => ?_)
    exact x_throw M TB hst0 hno hlk (by decide +kernel) kw_222 kwi_IA TB.2.2.2.2.2.1 TB.2.2.1.2.1 at1_IA_122 at2_IA_122 at3_IA_122 dX2_needWithin_10 dX2_needWithin_13 dX2_needWithin_14 dX2_needWithin_16 dX2_needWithin_19 ⟨by decide, by decide⟩ ⟨by decide, by decide⟩ ⟨by decide, by decide⟩
theorem mv_X2_labelOf : x_MV yX2_labelOf cX2_labelOf 2 (some (FieldType.object "GlassLabels$Label")) 1 := ⟨kw_283, kw_17, ⟨by decide +kernel, by decide +kernel⟩, by decide +kernel, kw_282, kw_2⟩
abbrev rm_X2_labelOf : Room := { frames := 0, cells := 0, slots := 0, locals := 0 }
abbrev rt_X2_labelOf : Room := { frames := 6, cells := 1, slots := 6, locals := 82 }
set_option maxRecDepth 20000 in
set_option maxHeartbeats 2000000 in
theorem c_labelOf (hB0 : Bd X) (hn : X 0 0 ≤ 12) {j : Nat} (hj : j < X 0 0) : x_Ret l D kc A yX2_labelOf cX2_labelOf 2 (some (FieldType.object "GlassLabels$Label")) rm_X2_labelOf [.ref (ad 0), .int (nI j)] (wl kc ad X B th ov hw) (some (.ref (ad (19 + j)))) (wl kc ad X B th ov hw) := by
  refine x_ret_of RX2 (by decide +kernel) rfl [some (.ref (ad 0)), some (.int (nI j))] (Nat.le_of_ble_eq_true rfl) rfl rfl ?_
  intro p e s m args below meth c M hr hlk hnm TB hAA
  have hB : ∀ r i, X r i < 2 ^ 31 := fun r i => Nat.lt_trans (hB0 r i) (by decide)
  refine x_iload1 M dX2_labelOf_0 ?_
  refine n_if_lt (tgt := 12) M (by first | omega | exact hB _ _) dX2_labelOf_1 (by decide) (fun q1 => q1.elim) (fun q1 => ?_)
  refine x_iload1 M dX2_labelOf_4 ?_
  refine x_aload0 M dX2_labelOf_5 ?_
  refine gX3 M TB kw_99 dX2_labelOf_6 ?_
  refine n_icmp_lt (tgt := 22) M (by first | omega | exact hB _ _) (by first | omega | exact hB _ _) dX2_labelOf_9 (by decide) (fun q9 => ?_) (fun q9 => absurd hj (by omega))
  refine x_aload0 M dX2_labelOf_22 ?_
  refine gX1 M TB kw_97 dX2_labelOf_23 ?_
  refine x_iload1 M dX2_labelOf_26 ?_
  refine aL M TB (by omega) dX2_labelOf_27 ?_
  exact x_aret M hr hlk dX2_labelOf_28 ⟨by decide, by decide⟩ rfl rfl
set_option maxRecDepth 20000 in
set_option maxHeartbeats 2000000 in
theorem t_labelOf {x : Int32} (h : bad (X 0 0) x) (hst0 : l.stackTraces = false) : x_Thr l D kc A yX2_labelOf cX2_labelOf 2 (some (FieldType.object "GlassLabels$Label")) rt_X2_labelOf [.ref (ad 0), .int x] (wl kc ad X B th ov hw) x_IO := by
  refine x_thr_of RX2 (by decide +kernel) rfl [some (.ref (ad 0)), some (.int x)] (Nat.le_of_ble_eq_true rfl) rfl rfl ?_
  intro p e s m args below meth c M hr hlk hno TB hAA
  refine x_iload1 M dX2_labelOf_0 ?_
  refine x_if_lt (tgt := 12) M dX2_labelOf_1 (by decide) (fun q1 => ?_) (fun q1 => ?_)
  · exact x_throw M TB hst0 hno hlk (by decide +kernel) kw_151 kwi_IO TB.2.2.2.2.2.2.2.1 TB.2.2.1.1 at1_IO_117 at2_IO_117 at3_IO_117 dX2_labelOf_12 dX2_labelOf_15 dX2_labelOf_16 dX2_labelOf_18 dX2_labelOf_21 ⟨by decide, by decide⟩ ⟨by decide, by decide⟩ ⟨by decide, by decide⟩
  · refine x_iload1 M dX2_labelOf_4 ?_
    refine x_aload0 M dX2_labelOf_5 ?_
    refine gX3 M TB kw_99 dX2_labelOf_6 ?_
    refine x_icmp_lt (tgt := 22) M dX2_labelOf_9 (by decide) (fun q9 => (h ⟨q1, q9⟩).elim) (fun q9 => ?_)
    exact x_throw M TB hst0 hno hlk (by decide +kernel) kw_151 kwi_IO TB.2.2.2.2.2.2.2.1 TB.2.2.1.1 at1_IO_117 at2_IO_117 at3_IO_117 dX2_labelOf_12 dX2_labelOf_15 dX2_labelOf_16 dX2_labelOf_18 dX2_labelOf_21 ⟨by decide, by decide⟩ ⟨by decide, by decide⟩ ⟨by decide, by decide⟩
theorem mv_X0_isDue : x_MV yX0_isDue cX0_isDue 2 (some FieldType.boolean) 1 := ⟨kw_130, kw_20, ⟨by decide +kernel, by decide +kernel⟩, by decide +kernel, kw_128, kw_129⟩
abbrev rm_X0_isDue : Room := { frames := 0, cells := 0, slots := 0, locals := 0 }
set_option maxRecDepth 20000 in
set_option maxHeartbeats 2000000 in
theorem c_isDue (hB0 : Bd X) {i t : Nat} (hi : i < 12) (ht : t < 2 ^ 31) : x_Ret l D kc A yX0_isDue cX0_isDue 2 (some FieldType.boolean) rm_X0_isDue [.ref (ad (19 + i)), .int (nI t)] (wl kc ad X B th ov hw) (some (.int (if X 8 i ≠ 0 ∧ X 9 i ≤ t then 1 else 0 : Int32))) (wl kc ad X B th ov hw) := by
  refine x_ret_of RX0 (by decide +kernel) rfl [some (.ref (ad (19 + i))), some (.int (nI t))] (Nat.le_of_ble_eq_true rfl) rfl rfl ?_
  intro p e s m args below meth c M hr hlk hnm TB hAA
  have hB : ∀ r i, X r i < 2 ^ 31 := fun r i => Nat.lt_trans (hB0 r i) (by decide)
  refine x_aload0 M dX0_isDue_0 ?_
  refine gL4 M TB (by omega) kw_71 dX0_isDue_1 ?_
  refine x_iconst (v := (-1)) M dX0_isDue_4 (by decide +kernel) ?_
  refine e_icmp_eq (tgt := 20) M (by first | omega | exact hB _ _) dX0_isDue_5 (by decide) (fun q5 => ?_) (fun q5 => ?_)
  · refine x_iconst (v := nI 0) M dX0_isDue_20 (by decide +kernel) ?_
    exact x_zret M hr hlk dX0_isDue_21 ⟨by decide, by decide⟩ (Or.inl rfl) (by rw [if_neg (by omega)]; rfl) rfl
  · refine x_aload0 M dX0_isDue_8 ?_
    refine gL5 M TB (by omega) kw_73 dX0_isDue_9 ?_
    refine x_iload1 M dX0_isDue_12 ?_
    refine n_icmp_gt (tgt := 20) M (by first | omega | exact hB _ _) (by first | omega | exact hB _ _) dX0_isDue_13 (by decide) (fun q13 => ?_) (fun q13 => ?_)
    · refine x_iconst (v := nI 0) M dX0_isDue_20 (by decide +kernel) ?_
      exact x_zret M hr hlk dX0_isDue_21 ⟨by decide, by decide⟩ (Or.inl rfl) (by rw [if_neg (by omega)]; rfl) rfl
    · refine x_iconst (v := nI 1) M dX0_isDue_16 (by decide +kernel) ?_
      refine x_goto (tgt := 21) M dX0_isDue_17 (by decide) ?_
      exact x_zret M hr hlk dX0_isDue_21 ⟨by decide, by decide⟩ (Or.inr rfl) (by rw [if_pos (by omega)]; rfl) rfl
theorem mv_X0_isSentBefore : x_MV yX0_isSentBefore cX0_isSentBefore 2 (some FieldType.boolean) 1 := ⟨kw_134, kw_20, ⟨by decide +kernel, by decide +kernel⟩, by decide +kernel, kw_132, kw_133⟩
abbrev rm_X0_isSentBefore : Room := { frames := 0, cells := 0, slots := 0, locals := 0 }
set_option maxRecDepth 20000 in
set_option maxHeartbeats 2000000 in
theorem c_isSentBefore (hB0 : Bd X) {i j : Nat} (hi : i < 12) (hj : j < 12) (oi : X 8 i ≠ 0) (oj : X 8 j ≠ 0) : x_Ret l D kc A yX0_isSentBefore cX0_isSentBefore 2 (some FieldType.boolean) rm_X0_isSentBefore [.ref (ad (19 + i)), .ref (ad (19 + j))] (wl kc ad X B th ov hw) (some (.int (if bef X i j then 1 else 0 : Int32))) (wl kc ad X B th ov hw) := by
  refine x_ret_of RX0 (by decide +kernel) rfl [some (.ref (ad (19 + i))), some (.ref (ad (19 + j)))] (Nat.le_of_ble_eq_true rfl) rfl rfl ?_
  intro p e s m args below meth c M hr hlk hnm TB hAA
  have hB : ∀ r i, X r i < 2 ^ 31 := fun r i => Nat.lt_trans (hB0 r i) (by decide)
  refine x_aload0 M dX0_isSentBefore_0 ?_
  refine gL5 M TB (by omega) kw_73 dX0_isSentBefore_1 ?_
  refine x_aload1 M dX0_isSentBefore_4 ?_
  refine gL5 M TB (by omega) kw_73 dX0_isSentBefore_5 ?_
  refine n_icmp_lt (tgt := 33) M (by first | omega | exact hB _ _) (by first | omega | exact hB _ _) dX0_isSentBefore_8 (by decide) (fun q8 => ?_) (fun q8 => ?_)
  · refine x_iconst (v := nI 1) M dX0_isSentBefore_33 (by decide +kernel) ?_
    refine x_goto (tgt := 38) M dX0_isSentBefore_34 (by decide) ?_
    exact x_zret M hr hlk dX0_isSentBefore_38 ⟨by decide, by decide⟩ (Or.inr rfl) (by rw [if_pos (by omega)]; rfl) rfl
  · refine x_aload0 M dX0_isSentBefore_11 ?_
    refine gL5 M TB (by omega) kw_73 dX0_isSentBefore_12 ?_
    refine x_aload1 M dX0_isSentBefore_15 ?_
    refine gL5 M TB (by omega) kw_73 dX0_isSentBefore_16 ?_
    refine n_icmp_ne (tgt := 37) M (by first | omega | exact hB _ _) (by first | omega | exact hB _ _) dX0_isSentBefore_19 (by decide) (fun q19 => ?_) (fun q19 => ?_)
    · refine x_iconst (v := nI 0) M dX0_isSentBefore_37 (by decide +kernel) ?_
      exact x_zret M hr hlk dX0_isSentBefore_38 ⟨by decide, by decide⟩ (Or.inl rfl) (by rw [if_neg (by omega)]; rfl) rfl
    · refine x_aload0 M dX0_isSentBefore_22 ?_
      refine gL4n M TB (by omega) oi kw_71 dX0_isSentBefore_23 ?_
      refine x_aload1 M dX0_isSentBefore_26 ?_
      refine gL4n M TB (by omega) oj kw_71 dX0_isSentBefore_27 ?_
      refine n_icmp_ge (tgt := 37) M (by first | omega | exact hB _ _) (by first | omega | exact hB _ _) dX0_isSentBefore_30 (by decide) (fun q30 => ?_) (fun q30 => ?_)
      · refine x_iconst (v := nI 0) M dX0_isSentBefore_37 (by decide +kernel) ?_
        exact x_zret M hr hlk dX0_isSentBefore_38 ⟨by decide, by decide⟩ (Or.inl rfl) (by rw [if_neg (by omega)]; rfl) rfl
      · refine x_iconst (v := nI 1) M dX0_isSentBefore_33 (by decide +kernel) ?_
        refine x_goto (tgt := 38) M dX0_isSentBefore_34 (by decide) ?_
        exact x_zret M hr hlk dX0_isSentBefore_38 ⟨by decide, by decide⟩ (Or.inr rfl) (by rw [if_pos (by omega)]; rfl) rfl
theorem mv_X0_listen : x_MV yX0_listen cX0_listen 1 none 0 := ⟨kw_346, kw_20, ⟨by decide +kernel, by decide +kernel⟩, by decide +kernel, kw_344, kw_345⟩
abbrev rm_X0_listen : Room := { frames := 0, cells := 0, slots := 0, locals := 0 }
set_option maxRecDepth 20000 in
set_option maxHeartbeats 2000000 in
theorem c_listen (hB0 : Bd X) {i : Nat} (hi : i < 12) : x_Ret l D kc A yX0_listen cX0_listen 1 none rm_X0_listen [.ref (ad (19 + i))] (wl kc ad X B th ov hw) (none) (wl kc ad (up X 5 i (X 5 i - 1)) B th ov hw) := by
  refine x_ret_of RX0 (by decide +kernel) rfl [some (.ref (ad (19 + i)))] (Nat.le_of_ble_eq_true rfl) rfl rfl ?_
  intro p e s m args below meth c M hr hlk hnm TB hAA
  have hB : ∀ r i, X r i < 2 ^ 31 := fun r i => Nat.lt_trans (hB0 r i) (by decide)
  refine x_aload0 M dX0_listen_0 ?_
  refine gL3 M TB (by omega) kw_69 dX0_listen_1 ?_
  refine n_if_le (tgt := 17) M (by first | omega | exact hB _ _) dX0_listen_4 (by decide) (fun q4 => ?_) (fun q4 => ?_)
  · exact x_vret M hr hlk dX0_listen_17 ⟨by decide, by decide⟩ rfl (by rw [up_id X (show X 5 i - 1 = X 5 i by omega)])
  · refine x_aload0 M dX0_listen_7 ?_
    refine x_dup M dX0_listen_8 rfl ?_
    refine gL3 M TB (by omega) kw_69 dX0_listen_9 ?_
    refine x_iconst (v := nI 1) M dX0_listen_12 (by decide +kernel) ?_
    refine n_sub M (by omega) dX0_listen_13 ?_
    refine pL3 M TB (by omega) kw_69 dX0_listen_14 ?_
    exact x_vret M hr hlk dX0_listen_17 ⟨by decide, by decide⟩ rfl rfl
end XM
end
section
/-! the class's methods: digits, redraw, answer, sending, orders -/
section XM
variable {l : Launch} {D : va_G} {kc : Nat → ClassId} {A : Nat → Prop} {ad : Nat → Nat} {X B : St} {th : Nat} {ov : Int64} {hw : Nat}
theorem mv_X0_changedDigits : x_MS yX0_changedDigits cX0_changedDigits 5 (some FieldType.int) 2 := ⟨kw_330, kw_20, ⟨by decide +kernel, by decide +kernel⟩, by decide +kernel, kw_329⟩
abbrev rm_X0_changedDigits : Room := { frames := 0, cells := 0, slots := 0, locals := 0 }
set_option maxRecDepth 20000 in
set_option maxHeartbeats 2000000 in
theorem c_changedDigits {a b : Nat} (ha : a < 2 ^ 30) (hb : b < 2 ^ 30) : x_Ret l D kc A yX0_changedDigits cX0_changedDigits 5 (some FieldType.int) rm_X0_changedDigits [.int (nI a), .int (nI b)] (wl kc ad X B th ov hw) (some (.int (nI (digs a b)))) (wl kc ad X B th ov hw) := by
  refine x_ret_of RX0 (by decide +kernel) rfl [some (.int (nI a)), some (.int (nI b)), none, none, none] (Nat.le_of_ble_eq_true rfl) rfl rfl ?_
  intro p e s m args below meth c M hr hlk hnm TB hAA
  have hA : a < 2 ^ 31 := by omega
  have hC : b < 2 ^ 31 := by omega
  have J4 : ∀ n0, n0 = digs a b → x_X p l e rm_X0_changedDigits s m args below meth c D A 5 0 0 (MQ below (x_Qc D A (some (.int (nI (digs a b)))) (wl kc ad X B th ov hw)) args s rm_X0_changedDigits.cells rm_X0_changedDigits.slots A) (wl kc ad X B th ov hw) 7 [some (.int (nI a)), some (.int (nI b)), some (.int (nI n0)), some (.int (nI 10000)), some (.int (nI 4))] [] := by
    intro n0 hc
    refine x_iload4 M dX0_changedDigits_7 ?_
    refine x_iconst (v := nI 4) M dX0_changedDigits_9 (by decide +kernel) ?_
    refine n_icmp_ge (tgt := 42) M (by first | omega | exact hB _ _) (by first | omega | exact hB _ _) dX0_changedDigits_10 (by decide) (fun q10 => ?_) (fun q10 => absurd q10 (by omega))
    refine x_iload2 M dX0_changedDigits_42 ?_
    exact x_iret M hr hlk dX0_changedDigits_43 ⟨by decide, by decide⟩ (by rw [hc]) rfl
  have J3 : ∀ n0, n0 + (dg1 a b 1000) = digs a b → x_X p l e rm_X0_changedDigits s m args below meth c D A 5 0 0 (MQ below (x_Qc D A (some (.int (nI (digs a b)))) (wl kc ad X B th ov hw)) args s rm_X0_changedDigits.cells rm_X0_changedDigits.slots A) (wl kc ad X B th ov hw) 7 [some (.int (nI a)), some (.int (nI b)), some (.int (nI n0)), some (.int (nI 1000)), some (.int (nI 3))] [] := by
    intro n0 hc
    refine x_iload4 M dX0_changedDigits_7 ?_
    refine x_iconst (v := nI 4) M dX0_changedDigits_9 (by decide +kernel) ?_
    refine n_icmp_ge (tgt := 42) M (by first | omega | exact hB _ _) (by first | omega | exact hB _ _) dX0_changedDigits_10 (by decide) (fun q10 => absurd q10 (by omega)) (fun q10 => ?_)
    refine x_iload0 M dX0_changedDigits_13 ?_
    refine x_iload3 M dX0_changedDigits_14 ?_
    refine n_div M (by first | omega | exact hB _ _) (by omega) (by first | omega | exact hB _ _) dX0_changedDigits_15 ?_
    refine x_bipush (v := nI 10) M dX0_changedDigits_16 (by decide +kernel) ?_
    refine n_rem M (by first | omega | exact hB _ _) (by omega) (by first | omega | exact hB _ _) dX0_changedDigits_18 ?_
    refine x_iload1 M dX0_changedDigits_19 ?_
    refine x_iload3 M dX0_changedDigits_20 ?_
    refine n_div M (by first | omega | exact hB _ _) (by omega) (by first | omega | exact hB _ _) dX0_changedDigits_21 ?_
    refine x_bipush (v := nI 10) M dX0_changedDigits_22 (by decide +kernel) ?_
    refine n_rem M (by first | omega | exact hB _ _) (by omega) (by first | omega | exact hB _ _) dX0_changedDigits_24 ?_
    refine n_icmp_eq (tgt := 31) M (by first | omega | exact hB _ _) (by first | omega | exact hB _ _) dX0_changedDigits_25 (by decide) (fun q25 => ?_) (fun q25 => ?_)
    · refine x_iload3 M dX0_changedDigits_31 ?_
      refine x_bipush (v := nI 10) M dX0_changedDigits_32 (by decide +kernel) ?_
      refine n_mul M dX0_changedDigits_34 ?_
      refine x_istore3 M dX0_changedDigits_35 ?_
      refine n_inc4 M dX0_changedDigits_36 ?_
      refine x_goto (tgt := 7) M dX0_changedDigits_39 (by decide) ?_
      exact J4 n0 (by have e : dg1 a b 1000 = 0 := if_pos q25; omega)
    · refine n_inc2 M dX0_changedDigits_28 ?_
      refine x_iload3 M dX0_changedDigits_31 ?_
      refine x_bipush (v := nI 10) M dX0_changedDigits_32 (by decide +kernel) ?_
      refine n_mul M dX0_changedDigits_34 ?_
      refine x_istore3 M dX0_changedDigits_35 ?_
      refine n_inc4 M dX0_changedDigits_36 ?_
      refine x_goto (tgt := 7) M dX0_changedDigits_39 (by decide) ?_
      exact J4 (n0 + 1) (by have e : dg1 a b 1000 = 1 := if_neg q25; omega)
  have J2 : ∀ n0, n0 + (dg1 a b 100 + dg1 a b 1000) = digs a b → x_X p l e rm_X0_changedDigits s m args below meth c D A 5 0 0 (MQ below (x_Qc D A (some (.int (nI (digs a b)))) (wl kc ad X B th ov hw)) args s rm_X0_changedDigits.cells rm_X0_changedDigits.slots A) (wl kc ad X B th ov hw) 7 [some (.int (nI a)), some (.int (nI b)), some (.int (nI n0)), some (.int (nI 100)), some (.int (nI 2))] [] := by
    intro n0 hc
    refine x_iload4 M dX0_changedDigits_7 ?_
    refine x_iconst (v := nI 4) M dX0_changedDigits_9 (by decide +kernel) ?_
    refine n_icmp_ge (tgt := 42) M (by first | omega | exact hB _ _) (by first | omega | exact hB _ _) dX0_changedDigits_10 (by decide) (fun q10 => absurd q10 (by omega)) (fun q10 => ?_)
    refine x_iload0 M dX0_changedDigits_13 ?_
    refine x_iload3 M dX0_changedDigits_14 ?_
    refine n_div M (by first | omega | exact hB _ _) (by omega) (by first | omega | exact hB _ _) dX0_changedDigits_15 ?_
    refine x_bipush (v := nI 10) M dX0_changedDigits_16 (by decide +kernel) ?_
    refine n_rem M (by first | omega | exact hB _ _) (by omega) (by first | omega | exact hB _ _) dX0_changedDigits_18 ?_
    refine x_iload1 M dX0_changedDigits_19 ?_
    refine x_iload3 M dX0_changedDigits_20 ?_
    refine n_div M (by first | omega | exact hB _ _) (by omega) (by first | omega | exact hB _ _) dX0_changedDigits_21 ?_
    refine x_bipush (v := nI 10) M dX0_changedDigits_22 (by decide +kernel) ?_
    refine n_rem M (by first | omega | exact hB _ _) (by omega) (by first | omega | exact hB _ _) dX0_changedDigits_24 ?_
    refine n_icmp_eq (tgt := 31) M (by first | omega | exact hB _ _) (by first | omega | exact hB _ _) dX0_changedDigits_25 (by decide) (fun q25 => ?_) (fun q25 => ?_)
    · refine x_iload3 M dX0_changedDigits_31 ?_
      refine x_bipush (v := nI 10) M dX0_changedDigits_32 (by decide +kernel) ?_
      refine n_mul M dX0_changedDigits_34 ?_
      refine x_istore3 M dX0_changedDigits_35 ?_
      refine n_inc4 M dX0_changedDigits_36 ?_
      refine x_goto (tgt := 7) M dX0_changedDigits_39 (by decide) ?_
      exact J3 n0 (by have e : dg1 a b 100 = 0 := if_pos q25; omega)
    · refine n_inc2 M dX0_changedDigits_28 ?_
      refine x_iload3 M dX0_changedDigits_31 ?_
      refine x_bipush (v := nI 10) M dX0_changedDigits_32 (by decide +kernel) ?_
      refine n_mul M dX0_changedDigits_34 ?_
      refine x_istore3 M dX0_changedDigits_35 ?_
      refine n_inc4 M dX0_changedDigits_36 ?_
      refine x_goto (tgt := 7) M dX0_changedDigits_39 (by decide) ?_
      exact J3 (n0 + 1) (by have e : dg1 a b 100 = 1 := if_neg q25; omega)
  have J1 : ∀ n0, n0 + (dg1 a b 10 + dg1 a b 100 + dg1 a b 1000) = digs a b → x_X p l e rm_X0_changedDigits s m args below meth c D A 5 0 0 (MQ below (x_Qc D A (some (.int (nI (digs a b)))) (wl kc ad X B th ov hw)) args s rm_X0_changedDigits.cells rm_X0_changedDigits.slots A) (wl kc ad X B th ov hw) 7 [some (.int (nI a)), some (.int (nI b)), some (.int (nI n0)), some (.int (nI 10)), some (.int (nI 1))] [] := by
    intro n0 hc
    refine x_iload4 M dX0_changedDigits_7 ?_
    refine x_iconst (v := nI 4) M dX0_changedDigits_9 (by decide +kernel) ?_
    refine n_icmp_ge (tgt := 42) M (by first | omega | exact hB _ _) (by first | omega | exact hB _ _) dX0_changedDigits_10 (by decide) (fun q10 => absurd q10 (by omega)) (fun q10 => ?_)
    refine x_iload0 M dX0_changedDigits_13 ?_
    refine x_iload3 M dX0_changedDigits_14 ?_
    refine n_div M (by first | omega | exact hB _ _) (by omega) (by first | omega | exact hB _ _) dX0_changedDigits_15 ?_
    refine x_bipush (v := nI 10) M dX0_changedDigits_16 (by decide +kernel) ?_
    refine n_rem M (by first | omega | exact hB _ _) (by omega) (by first | omega | exact hB _ _) dX0_changedDigits_18 ?_
    refine x_iload1 M dX0_changedDigits_19 ?_
    refine x_iload3 M dX0_changedDigits_20 ?_
    refine n_div M (by first | omega | exact hB _ _) (by omega) (by first | omega | exact hB _ _) dX0_changedDigits_21 ?_
    refine x_bipush (v := nI 10) M dX0_changedDigits_22 (by decide +kernel) ?_
    refine n_rem M (by first | omega | exact hB _ _) (by omega) (by first | omega | exact hB _ _) dX0_changedDigits_24 ?_
    refine n_icmp_eq (tgt := 31) M (by first | omega | exact hB _ _) (by first | omega | exact hB _ _) dX0_changedDigits_25 (by decide) (fun q25 => ?_) (fun q25 => ?_)
    · refine x_iload3 M dX0_changedDigits_31 ?_
      refine x_bipush (v := nI 10) M dX0_changedDigits_32 (by decide +kernel) ?_
      refine n_mul M dX0_changedDigits_34 ?_
      refine x_istore3 M dX0_changedDigits_35 ?_
      refine n_inc4 M dX0_changedDigits_36 ?_
      refine x_goto (tgt := 7) M dX0_changedDigits_39 (by decide) ?_
      exact J2 n0 (by have e : dg1 a b 10 = 0 := if_pos q25; omega)
    · refine n_inc2 M dX0_changedDigits_28 ?_
      refine x_iload3 M dX0_changedDigits_31 ?_
      refine x_bipush (v := nI 10) M dX0_changedDigits_32 (by decide +kernel) ?_
      refine n_mul M dX0_changedDigits_34 ?_
      refine x_istore3 M dX0_changedDigits_35 ?_
      refine n_inc4 M dX0_changedDigits_36 ?_
      refine x_goto (tgt := 7) M dX0_changedDigits_39 (by decide) ?_
      exact J2 (n0 + 1) (by have e : dg1 a b 10 = 1 := if_neg q25; omega)
  have J0 : ∀ n0, n0 + (dg1 a b 1 + dg1 a b 10 + dg1 a b 100 + dg1 a b 1000) = digs a b → x_X p l e rm_X0_changedDigits s m args below meth c D A 5 0 0 (MQ below (x_Qc D A (some (.int (nI (digs a b)))) (wl kc ad X B th ov hw)) args s rm_X0_changedDigits.cells rm_X0_changedDigits.slots A) (wl kc ad X B th ov hw) 7 [some (.int (nI a)), some (.int (nI b)), some (.int (nI n0)), some (.int (nI 1)), some (.int (nI 0))] [] := by
    intro n0 hc
    refine x_iload4 M dX0_changedDigits_7 ?_
    refine x_iconst (v := nI 4) M dX0_changedDigits_9 (by decide +kernel) ?_
    refine n_icmp_ge (tgt := 42) M (by first | omega | exact hB _ _) (by first | omega | exact hB _ _) dX0_changedDigits_10 (by decide) (fun q10 => absurd q10 (by omega)) (fun q10 => ?_)
    refine x_iload0 M dX0_changedDigits_13 ?_
    refine x_iload3 M dX0_changedDigits_14 ?_
    refine n_div M (by first | omega | exact hB _ _) (by omega) (by first | omega | exact hB _ _) dX0_changedDigits_15 ?_
    refine x_bipush (v := nI 10) M dX0_changedDigits_16 (by decide +kernel) ?_
    refine n_rem M (by first | omega | exact hB _ _) (by omega) (by first | omega | exact hB _ _) dX0_changedDigits_18 ?_
    refine x_iload1 M dX0_changedDigits_19 ?_
    refine x_iload3 M dX0_changedDigits_20 ?_
    refine n_div M (by first | omega | exact hB _ _) (by omega) (by first | omega | exact hB _ _) dX0_changedDigits_21 ?_
    refine x_bipush (v := nI 10) M dX0_changedDigits_22 (by decide +kernel) ?_
    refine n_rem M (by first | omega | exact hB _ _) (by omega) (by first | omega | exact hB _ _) dX0_changedDigits_24 ?_
    refine n_icmp_eq (tgt := 31) M (by first | omega | exact hB _ _) (by first | omega | exact hB _ _) dX0_changedDigits_25 (by decide) (fun q25 => ?_) (fun q25 => ?_)
    · refine x_iload3 M dX0_changedDigits_31 ?_
      refine x_bipush (v := nI 10) M dX0_changedDigits_32 (by decide +kernel) ?_
      refine n_mul M dX0_changedDigits_34 ?_
      refine x_istore3 M dX0_changedDigits_35 ?_
      refine n_inc4 M dX0_changedDigits_36 ?_
      refine x_goto (tgt := 7) M dX0_changedDigits_39 (by decide) ?_
      exact J1 n0 (by have e : dg1 a b 1 = 0 := if_pos q25; omega)
    · refine n_inc2 M dX0_changedDigits_28 ?_
      refine x_iload3 M dX0_changedDigits_31 ?_
      refine x_bipush (v := nI 10) M dX0_changedDigits_32 (by decide +kernel) ?_
      refine n_mul M dX0_changedDigits_34 ?_
      refine x_istore3 M dX0_changedDigits_35 ?_
      refine n_inc4 M dX0_changedDigits_36 ?_
      refine x_goto (tgt := 7) M dX0_changedDigits_39 (by decide) ?_
      exact J1 (n0 + 1) (by have e : dg1 a b 1 = 1 := if_neg q25; omega)
  refine x_iconst (v := nI 0) M dX0_changedDigits_0 (by decide +kernel) ?_
  refine x_istore2 M dX0_changedDigits_1 ?_
  refine x_iconst (v := nI 1) M dX0_changedDigits_2 (by decide +kernel) ?_
  refine x_istore3 M dX0_changedDigits_3 ?_
  refine x_iconst (v := nI 0) M dX0_changedDigits_4 (by decide +kernel) ?_
  refine x_istore4 M dX0_changedDigits_5 ?_
  exact J0 0 (by unfold digs; omega)
theorem digs_0 {a b : Nat} (ha : a < 10000) (hb : b < 10000) : digs a b = 0 ↔ a = b := by
  unfold digs dg1
  constructor
  · intro h
    split at h <;> split at h <;> split at h <;> split at h <;> omega
  · intro h
    subst h
    simp
theorem digs_4 (a b : Nat) : digs a b ≤ 4 := by
  unfold digs dg1
  split <;> split <;> split <;> split <;> omega
theorem Bd_up {S : St} (h : Bd S) {r i v : Nat} (hv : v < 2 ^ 30) : Bd (up S r i v) := fun r2 i2 => by
  unfold up
  split
  · exact hv
  · exact h r2 i2
theorem Bd_redr {S : St} (h : Bd S) (i : Nat) (hg : S 4 i < 2 ^ 20) : Bd (redr S i) := by
  have h4 := digs_4 (S 3 i) (S 1 (S 2 i))
  have h5 := h 5 i
  unfold redr
  split
  · exact h
  · split
    · exact Bd_up (Bd_up (Bd_up h (by omega)) (by decide)) (h _ _)
    · exact Bd_up (Bd_up (Bd_up h (by omega)) (by omega)) (h _ _)
theorem mv_X0_redraw : x_MV yX0_redraw cX0_redraw 3 none 1 := ⟨kw_327, kw_20, ⟨by decide +kernel, by decide +kernel⟩, by decide +kernel, kw_326, kw_4⟩
abbrev rm_X0_redraw : Room := { frames := 1, cells := 0, slots := 0, locals := 24 }
set_option maxRecDepth 20000 in
set_option maxHeartbeats 2000000 in
theorem c_redraw (hB0 : Bd X) {i : Nat} (hi : i < 12) (hp : X 1 (X 2 i) < 10000) (hs : X 3 i < 10000) (h20 : 20 ≤ X 5 i) : x_Ret l D kc A yX0_redraw cX0_redraw 3 none rm_X0_redraw [.ref (ad (19 + i)), .int (nI (X 1 (X 2 i)))] (wl kc ad X B th ov hw) (none) (wl kc ad (redr X i) B th ov hw) := by
  refine x_ret_of RX0 (by decide +kernel) rfl [some (.ref (ad (19 + i))), some (.int (nI (X 1 (X 2 i)))), none] (Nat.le_of_ble_eq_true rfl) rfl rfl ?_
  intro p e s m args below meth c M hr hlk hnm TB hAA
  have hB : ∀ r i, X r i < 2 ^ 31 := fun r i => Nat.lt_trans (hB0 r i) (by decide)
  have h4 := digs_4 (X 3 i) (X 1 (X 2 i))
  have hg := hB0 4 i
  refine x_iload1 M dX0_redraw_0 ?_
  refine x_aload0 M dX0_redraw_1 ?_
  refine gL1 M TB (by omega) kw_65 dX0_redraw_2 ?_
  refine n_icmp_ne (tgt := 9) M (by first | omega | exact hB _ _) (by first | omega | exact hB _ _) dX0_redraw_5 (by decide) (fun q5 => ?_) (fun q5 => ?_)
  · refine x_aload0 M dX0_redraw_9 ?_
    refine gL2 M TB (by omega) kw_67 dX0_redraw_10 ?_
    refine x_aload0 M dX0_redraw_13 ?_
    refine gL1 M TB (by omega) kw_65 dX0_redraw_14 ?_
    refine x_iload1 M dX0_redraw_17 ?_
    refine x_callS0 M TB hAA mv_X0_changedDigits kw_328 dX0_redraw_18 (c_changedDigits (hB0 _ _) (hB0 _ _)) rfl ⟨by decide, by decide⟩ ⟨by decide, by decide⟩ (Nat.le_of_ble_eq_true rfl) ?_
    refine n_add M dX0_redraw_21 ?_
    refine x_istore2 M dX0_redraw_22 ?_
    refine x_iload2 M dX0_redraw_23 ?_
    refine x_bipush (v := nI 9) M dX0_redraw_24 (by decide +kernel) ?_
    refine n_icmp_le (tgt := 48) M (by first | omega | exact hB _ _) (by first | omega | exact hB _ _) dX0_redraw_26 (by decide) (fun q26 => ?_) (fun q26 => ?_)
    · refine x_aload0 M dX0_redraw_48 ?_
      refine x_dup M dX0_redraw_49 rfl ?_
      refine gL3 M TB (by omega) kw_69 dX0_redraw_50 ?_
      refine x_bipush (v := nI 10) M dX0_redraw_53 (by decide +kernel) ?_
      refine n_sub M (by omega) dX0_redraw_55 ?_
      refine pL3 M TB (by omega) kw_69 dX0_redraw_56 ?_
      refine x_aload0 M dX0_redraw_59 ?_
      refine x_iload2 M dX0_redraw_60 ?_
      refine pL2 M TB (by omega) kw_67 dX0_redraw_61 ?_
      refine x_aload0 M dX0_redraw_64 ?_
      refine x_iload1 M dX0_redraw_65 ?_
      refine pL1 M TB (by omega) kw_65 dX0_redraw_66 ?_
      exact x_vret M hr hlk dX0_redraw_69 ⟨by decide, by decide⟩ rfl (by rw [redr, if_neg (fun h => q5 ((digs_0 hs hp).mp h).symm), if_neg (by omega)])
    · refine x_aload0 M dX0_redraw_29 ?_
      refine x_dup M dX0_redraw_30 rfl ?_
      refine gL3 M TB (by omega) kw_69 dX0_redraw_31 ?_
      refine x_bipush (v := nI 20) M dX0_redraw_34 (by decide +kernel) ?_
      refine n_sub M (by omega) dX0_redraw_36 ?_
      refine pL3 M TB (by omega) kw_69 dX0_redraw_37 ?_
      refine x_aload0 M dX0_redraw_40 ?_
      refine x_iconst (v := nI 0) M dX0_redraw_41 (by decide +kernel) ?_
      refine pL2 M TB (by omega) kw_67 dX0_redraw_42 ?_
      refine x_goto (tgt := 64) M dX0_redraw_45 (by decide) ?_
      refine x_aload0 M dX0_redraw_64 ?_
      refine x_iload1 M dX0_redraw_65 ?_
      refine pL1 M TB (by omega) kw_65 dX0_redraw_66 ?_
      exact x_vret M hr hlk dX0_redraw_69 ⟨by decide, by decide⟩ rfl (by rw [redr, if_neg (fun h => q5 ((digs_0 hs hp).mp h).symm), if_pos q26])
  · exact x_vret M hr hlk dX0_redraw_8 ⟨by decide, by decide⟩ rfl (by rw [redr, if_pos ((digs_0 hs hp).mpr q5.symm)])
theorem mv_X0_answer : x_MV yX0_answer cX0_answer 1 none 0 := ⟨kw_334, kw_20, ⟨by decide +kernel, by decide +kernel⟩, by decide +kernel, kw_333, kw_5⟩
abbrev rm_X0_answer : Room := { frames := 0, cells := 0, slots := 0, locals := 0 }
set_option maxRecDepth 20000 in
set_option maxHeartbeats 2000000 in
theorem c_answer (hB0 : Bd X) {i : Nat} (hi : i < 12) : x_Ret l D kc A yX0_answer cX0_answer 1 none rm_X0_answer [.ref (ad (19 + i))] (wl kc ad X B th ov hw) (none) (wl kc ad (answ X i) B th ov hw) := by
  refine x_ret_of RX0 (by decide +kernel) rfl [some (.ref (ad (19 + i)))] (Nat.le_of_ble_eq_true rfl) rfl rfl ?_
  intro p e s m args below meth c M hr hlk hnm TB hAA
  have hB : ∀ r i, X r i < 2 ^ 31 := fun r i => Nat.lt_trans (hB0 r i) (by decide)
  refine x_aload0 M dX0_answer_0 ?_
  refine gL7 M TB (by omega) kw_77 dX0_answer_1 ?_
  refine n_if_le (tgt := 20) M (by first | omega | exact hB _ _) dX0_answer_4 (by decide) (fun q4 => ?_) (fun q4 => ?_)
  · refine x_aload0 M dX0_answer_20 ?_
    refine x_iconst (v := (-1)) M dX0_answer_21 (by decide +kernel) ?_
    refine pL4 (v := 0) M TB (by omega) rfl kw_71 dX0_answer_22 ?_
    exact x_vret M hr hlk dX0_answer_25 ⟨by decide, by decide⟩ rfl (by rw [answ, if_neg (by omega)])
  · refine x_aload0 M dX0_answer_7 ?_
    refine x_dup M dX0_answer_8 rfl ?_
    refine gL7 M TB (by omega) kw_77 dX0_answer_9 ?_
    refine x_iconst (v := nI 1) M dX0_answer_12 (by decide +kernel) ?_
    refine n_sub M (by omega) dX0_answer_13 ?_
    refine pL7 M TB (by omega) kw_77 dX0_answer_14 ?_
    refine x_goto (tgt := 25) M dX0_answer_17 (by decide) ?_
    exact x_vret M hr hlk dX0_answer_25 ⟨by decide, by decide⟩ rfl (by rw [answ, if_pos q4])
theorem mv_X0_getSending : x_MV yX0_getSending cX0_getSending 3 none 2 := ⟨kw_323, kw_20, ⟨by decide +kernel, by decide +kernel⟩, by decide +kernel, kw_321, kw_322⟩
abbrev rm_X0_getSending : Room := { frames := 2, cells := 0, slots := 0, locals := 46 }
set_option maxRecDepth 20000 in
set_option maxHeartbeats 2000000 in
theorem c_getSending (hB0 : Bd X) {i : Nat} (hi : i < 12) (ht : X 0 1 < 2 ^ 20) (hp : X 1 (X 2 i) < 10000) (hs : X 3 i < 10000) (hg : X 4 i < 2 ^ 20) : x_Ret l D kc A yX0_getSending cX0_getSending 3 none rm_X0_getSending [.ref (ad (19 + i)), .int (nI (X 1 (X 2 i))), .int (nI (X 0 1))] (wl kc ad X B th ov hw) (none) (wl kc ad (sen X i) B th ov hw) := by
  refine x_ret_of RX0 (by decide +kernel) rfl [some (.ref (ad (19 + i))), some (.int (nI (X 1 (X 2 i)))), some (.int (nI (X 0 1)))] (Nat.le_of_ble_eq_true rfl) rfl rfl ?_
  intro p e s m args below meth c M hr hlk hnm TB hAA
  have hB : ∀ r i, X r i < 2 ^ 31 := fun r i => Nat.lt_trans (hB0 r i) (by decide)
  have hY : Bd (up X 9 i (X 0 1 + 5)) := Bd_up hB0 (by omega)
  refine x_aload0 M dX0_getSending_0 ?_
  refine x_iload2 M dX0_getSending_1 ?_
  refine x_iconst (v := nI 5) M dX0_getSending_2 (by decide +kernel) ?_
  refine n_add M dX0_getSending_3 ?_
  refine pL5 M TB (by omega) kw_73 dX0_getSending_4 ?_
  refine x_aload0 M dX0_getSending_7 ?_
  refine gL6 M TB (by omega) kw_75 dX0_getSending_8 ?_
  refine n_if_le (tgt := 27) M (by first | omega | exact hB _ _) dX0_getSending_11 (by decide) (fun q11 => ?_) (fun q11 => ?_)
  · refine x_aload0 M dX0_getSending_27 ?_
    refine gL3 M TB (by omega) kw_69 dX0_getSending_28 ?_
    refine x_bipush (v := nI 20) M dX0_getSending_31 (by decide +kernel) ?_
    refine n_icmp_lt (tgt := 45) M (by first | omega | exact hB _ _) (by first | omega | exact hB _ _) dX0_getSending_33 (by decide) (fun q33 => ?_) (fun q33 => ?_)
    · exact x_vret M hr hlk dX0_getSending_45 ⟨by decide, by decide⟩ rfl (by rw [sen, sen1, if_neg (by omega), if_neg (by omega)])
    · refine x_aload0 M dX0_getSending_36 ?_
      refine x_iload1 M dX0_getSending_37 ?_
      refine x_callV0 M TB hAA mv_X0_redraw kw_324 dX0_getSending_38 (c_redraw (X := (up X 9 i (X 0 1 + 5))) hY hi hp hs q33) rfl (wl_lab hi) rfl rfl ⟨by decide, by decide⟩ ⟨by decide, by decide⟩ (Nat.le_of_ble_eq_true rfl) ?_
      refine x_aload0 M dX0_getSending_41 ?_
      refine x_callV0 M TB hAA mv_X0_answer kw_331 dX0_getSending_42 (c_answer (X := redr (up X 9 i (X 0 1 + 5)) i) (Bd_redr hY i hg) hi) rfl (wl_lab hi) rfl rfl ⟨by decide, by decide⟩ ⟨by decide, by decide⟩ (Nat.le_of_ble_eq_true rfl) ?_
      exact x_vret M hr hlk dX0_getSending_45 ⟨by decide, by decide⟩ rfl (by rw [sen, sen1, if_neg (by omega), if_pos q33])
  · refine x_aload0 M dX0_getSending_14 ?_
    refine x_dup M dX0_getSending_15 rfl ?_
    refine gL6 M TB (by omega) kw_75 dX0_getSending_16 ?_
    refine x_iconst (v := nI 1) M dX0_getSending_19 (by decide +kernel) ?_
    refine n_sub M (by omega) dX0_getSending_20 ?_
    refine pL6 M TB (by omega) kw_75 dX0_getSending_21 ?_
    refine x_goto (tgt := 45) M dX0_getSending_24 (by decide) ?_
    exact x_vret M hr hlk dX0_getSending_45 ⟨by decide, by decide⟩ rfl (by rw [sen, sen1, if_pos q11])
theorem mv_X2_giveOrder : x_MV yX2_giveOrder cX2_giveOrder 2 none 1 := ⟨kw_241, kw_17, ⟨by decide +kernel, by decide +kernel⟩, by decide +kernel, kw_240, kw_1⟩
abbrev rm_X2_giveOrder : Room := { frames := 0, cells := 0, slots := 0, locals := 0 }
set_option maxRecDepth 20000 in
set_option maxHeartbeats 2000000 in
theorem c_giveOrder (hB0 : Bd X) {i : Nat} (hi : i < 12) : x_Ret l D kc A yX2_giveOrder cX2_giveOrder 2 none rm_X2_giveOrder [.ref (ad 0), .ref (ad (19 + i))] (wl kc ad X B th ov hw) (none) (wl kc ad (gets X i) B th ov hw) := by
  refine x_ret_of RX2 (by decide +kernel) rfl [some (.ref (ad 0)), some (.ref (ad (19 + i)))] (Nat.le_of_ble_eq_true rfl) rfl rfl ?_
  intro p e s m args below meth c M hr hlk hnm TB hAA
  have hB : ∀ r i, X r i < 2 ^ 31 := fun r i => Nat.lt_trans (hB0 r i) (by decide)
  refine x_aload0 M dX2_giveOrder_0 ?_
  refine x_dup M dX2_giveOrder_1 rfl ?_
  refine gX5 M TB kw_101 dX2_giveOrder_2 ?_
  refine x_iconst (v := nI 1) M dX2_giveOrder_5 (by decide +kernel) ?_
  refine n_add M dX2_giveOrder_6 ?_
  refine pX5 M TB kw_101 dX2_giveOrder_7 ?_
  refine x_aload1 M dX2_giveOrder_10 ?_
  refine x_aload0 M dX2_giveOrder_11 ?_
  refine gX5 M TB kw_101 dX2_giveOrder_12 ?_
  refine pL4 (v := X 0 2 + 1) M TB (by omega) (eo_n (by omega)) kw_72 dX2_giveOrder_15 ?_
  refine x_aload1 M dX2_giveOrder_18 ?_
  refine x_aload0 M dX2_giveOrder_19 ?_
  refine gX4 M TB kw_100 dX2_giveOrder_20 ?_
  refine pL5 M TB (by omega) kw_74 dX2_giveOrder_23 ?_
  exact x_vret M hr hlk dX2_giveOrder_26 ⟨by decide, by decide⟩ rfl rfl
end XM
end
section
/-! what holds of the state in every run: Ok; and how the shop's functions keep it -/
def okv (r i v : Nat) : Prop := v < 2 ^ 30 ∧ (r = 0 → i = 0 → v ≤ 12) ∧ (r = 0 → i = 1 → v ≤ 10000) ∧ (r = 1 → v < 10000) ∧ (r = 2 → v < 12) ∧ (r = 3 → v < 10000) ∧ (r = 4 → v ≤ 9) ∧ (r = 10 → v ≤ 10000) ∧ (r = 11 → v ≤ 10000)
def Ok (S : St) : Prop := ∀ r i, okv r i (S r i)
theorem Ok.bd {S : St} (h : Ok S) : Bd S := fun r i => (h r i).1
theorem Ok.n {S : St} (h : Ok S) : S 0 0 ≤ 12 := (h 0 0).2.1 rfl rfl
theorem Ok.t {S : St} (h : Ok S) : S 0 1 ≤ 10000 := (h 0 1).2.2.1 rfl rfl
theorem Ok.p {S : St} (h : Ok S) (i : Nat) : S 1 i < 10000 := (h 1 i).2.2.2.1 rfl
theorem Ok.w {S : St} (h : Ok S) (i : Nat) : S 2 i < 12 := (h 2 i).2.2.2.2.1 rfl
theorem Ok.s {S : St} (h : Ok S) (i : Nat) : S 3 i < 10000 := (h 3 i).2.2.2.2.2.1 rfl
theorem Ok.g {S : St} (h : Ok S) (i : Nat) : S 4 i ≤ 9 := (h 4 i).2.2.2.2.2.2.1 rfl
theorem Ok.l {S : St} (h : Ok S) (i : Nat) : S 10 i ≤ 10000 := (h 10 i).2.2.2.2.2.2.2.1 rfl
theorem Ok.e {S : St} (h : Ok S) (i : Nat) : S 11 i ≤ 10000 := (h 11 i).2.2.2.2.2.2.2.2 rfl
theorem Ok_up {S : St} (h : Ok S) {r i v : Nat} (hv : okv r i v) : Ok (up S r i v) := fun r2 i2 => by
  unfold up
  split
  · rename_i q; rw [q.1, q.2]; exact hv
  · exact h r2 i2
theorem okv_5 {r i v : Nat} (h : v < 2 ^ 30) (hr : r = 5 ∨ r = 6 ∨ r = 7 ∨ r = 8 ∨ r = 9) : okv r i v := by
  unfold okv
  refine ⟨h, ?_, ?_, ?_, ?_, ?_, ?_, ?_, ?_⟩ <;> omega
theorem okv_o {r i v : Nat} (h : v < 2 ^ 30) (h0 : r = 0 → i = 0 → v ≤ 12) (h1 : r = 0 → i = 1 → v ≤ 10000) (h2 : r = 1 → v < 10000) (h3 : r = 2 → v < 12) (h4 : r = 3 → v < 10000) (h5 : r = 4 → v ≤ 9) (h6 : r = 10 → v ≤ 10000) (h7 : r = 11 → v ≤ 10000) : okv r i v := ⟨h, h0, h1, h2, h3, h4, h5, h6, h7⟩
theorem Ok_redr {S : St} (h : Ok S) (i : Nat) : Ok (redr S i) := by
  have h4 := digs_4 (S 3 i) (S 1 (S 2 i))
  have h5 := h.bd 5 i
  have hp := h.p (S 2 i)
  unfold redr
  split
  · exact h
  · split
    · exact Ok_up (Ok_up (Ok_up h (okv_5 (by omega) (by omega))) (okv_o (by omega) (by omega) (by omega) (by omega) (by omega) (by omega) (by omega) (by omega) (by omega))) (okv_o (by omega) (by omega) (by omega) (by omega) (by omega) (by omega) (by omega) (by omega) (by omega))
    · exact Ok_up (Ok_up (Ok_up h (okv_5 (by omega) (by omega))) (okv_o (by omega) (by omega) (by omega) (by omega) (by omega) (by omega) (by omega) (by omega) (by omega))) (okv_o (by omega) (by omega) (by omega) (by omega) (by omega) (by omega) (by omega) (by omega) (by omega))
theorem Ok_answ {S : St} (h : Ok S) (i : Nat) : Ok (answ S i) := by
  have := h.bd 7 i
  unfold answ
  split
  · exact Ok_up h (okv_5 (by omega) (by omega))
  · exact Ok_up h (okv_5 (by omega) (by omega))
theorem Ok_sen {S : St} (h : Ok S) (i : Nat) : Ok (sen S i) := by
  have ht := h.t
  have h1 : Ok (up S 9 i (S 0 1 + 5)) := Ok_up h (okv_5 (by omega) (by omega))
  have := h1.bd 6 i
  unfold sen sen1
  split
  · exact Ok_up h1 (okv_5 (by omega) (by omega))
  · split
    · exact Ok_answ (Ok_redr h1 i) i
    · exact h1
theorem Ok_slot {S : St} (h : Ok S) : Ok (slot S).1 := by
  unfold slot
  split
  · exact h
  · exact Ok_sen h _
theorem Ok_tick {S : St} (h : Ok S) (ht : S 0 1 < 10000) : Ok (tick S) := Ok_up h (okv_o (by omega) (by omega) (by omega) (by omega) (by omega) (by omega) (by omega) (by omega) (by omega))
theorem lnow_le (S : St) (w : Nat) : ∀ k, lnow S w k ≤ 10000
  | 0 => Nat.le_refl _
  | k + 1 => by
    have := lnow_le S w k
    unfold lnow
    split
    · omega
    · exact this
theorem lhr_le (S : St) (w : Nat) : ∀ k, lhr S w k ≤ 10000
  | 0 => Nat.le_refl _
  | k + 1 => by
    have := lhr_le S w k
    unfold lhr
    omega
theorem Ok_xem {S : St} (h : Ok S) (k : Nat) : Ok (xem S k) := fun r i => by
  have h5 := h.bd 5 i
  have h1 := lnow_le S (i / 60) k
  have h2 := lnow_le S i k
  have h3 := h.e i
  unfold xem
  split
  · rename_i q
    subst q
    split <;> exact okv_5 (by omega) (by omega)
  · split
    · rename_i q
      subst q
      split
      · exact okv_o (by omega) (by omega) (by omega) (by omega) (by omega) (by omega) (by omega) (by omega) (by omega)
      · exact h 10 i
    · split
      · rename_i q
        subst q
        split
        · exact okv_o (by omega) (by omega) (by omega) (by omega) (by omega) (by omega) (by omega) (by omega) (by omega)
        · exact h 11 i
      · exact h r i
theorem nxt_n {S : St} {k : Nat} (h : nxt S k = none) : nxt S (k + 1) = if due S k then some k else none := by simp only [nxt, h]
theorem nxt_s {S : St} {k j : Nat} (h : nxt S k = some j) : nxt S (k + 1) = if due S k ∧ bef S k j then some k else some j := by simp only [nxt, h]
theorem nxt_of {S : St} : ∀ {k j : Nat}, nxt S k = some j → j < k ∧ due S j
  | 0, j, h => by cases h
  | k + 1, j, h => by
    cases e : nxt S k with
    | none =>
      rw [nxt_n e] at h
      split at h
      · cases h; rename_i q; exact ⟨by omega, q⟩
      · cases h
    | some i =>
      rw [nxt_s e] at h
      have := nxt_of e
      split at h
      · cases h; rename_i q; exact ⟨by omega, q.1⟩
      · cases h; exact ⟨by omega, this.2⟩
theorem lnow_w {S : St} {w k : Nat} (h : S 2 k = w) : lnow S w (k + 1) = min (lnow S w k) (S 3 k) := if_pos h
theorem lnow_n {S : St} {w k : Nat} (h : ¬ S 2 k = w) : lnow S w (k + 1) = lnow S w k := if_neg h
theorem xem_5 {S : St} {k i : Nat} : xem S k 5 i = if i < k then S 5 i - 1 else S 5 i := rfl
theorem xem_10 {S : St} {k i : Nat} : xem S k 10 i = if i < 720 ∧ i % 60 = S 0 1 % 60 then lnow S (i / 60) k else S 10 i := rfl
theorem xem_11 {S : St} {k i : Nat} : xem S k 11 i = if i < 12 then min (S 11 i) (lnow S i k) else S 11 i := rfl
/-- a minute's rows, opened -/
def opn (S : St) : St := fun r i => if r = 10 then (if i < 720 ∧ i % 60 = S 0 1 % 60 then 10000 else S 10 i) else S r i
theorem xem_0 {S : St} (h : Ok S) : opn S = xem S 0 := by
  funext r i
  unfold opn xem
  by_cases h5 : r = 5
  · subst h5; simp
  · by_cases h10 : r = 10
    · subst h10; rfl
    · by_cases h11 : r = 11
      · subst h11
        have := h.e i
        show S 11 i = if i < 12 then min (S 11 i) 10000 else S 11 i
        split
        · rw [Nat.min_eq_left this]
        · rfl
      · simp [h5, h10, h11]
/-- a label's part of the end of a minute -/
theorem xem_1 {S : St} {k : Nat} (hw : S 2 k < 12) :
    up (up (up (xem S k) 5 k (xem S k 5 k - 1)) 10 (60 * S 2 k + S 0 1 % 60) (min (up (xem S k) 5 k (xem S k 5 k - 1) 10 (60 * S 2 k + S 0 1 % 60)) (S 3 k))) 11 (S 2 k) (min (up (xem S k) 5 k (xem S k 5 k - 1) 11 (S 2 k)) (S 3 k)) = xem S (k + 1) := by
  have hq : S 0 1 % 60 < 60 := Nat.mod_lt _ (by decide)
  have e5 : xem S k 5 k = S 5 k := by unfold xem; rw [if_pos rfl, if_neg (Nat.lt_irrefl _)]
  have e10 : up (xem S k) 5 k (xem S k 5 k - 1) 10 (60 * S 2 k + S 0 1 % 60) = lnow S (S 2 k) k := by
    rw [up_r _ (by decide)]
    unfold xem
    rw [if_neg (by decide), if_pos rfl, if_pos (by omega), show (60 * S 2 k + S 0 1 % 60) / 60 = S 2 k by omega]
  have e11 : up (xem S k) 5 k (xem S k 5 k - 1) 11 (S 2 k) = min (S 11 (S 2 k)) (lnow S (S 2 k) k) := by
    rw [up_r _ (by decide)]
    unfold xem
    rw [if_neg (by decide), if_neg (by decide), if_pos rfl, if_pos hw]
  rw [e10, e11, e5]
  funext r i
  by_cases h5 : r = 5
  · subst h5
    rw [up_r _ (by decide), up_r _ (by decide)]
    by_cases hi : i = k
    · subst hi
      rw [up_s]
      unfold xem
      rw [if_pos rfl, if_pos (by omega)]
    · rw [up_i _ hi]
      unfold xem
      rw [if_pos rfl, if_pos rfl]
      by_cases hl : i < k
      · rw [if_pos hl, if_pos (by omega)]
      · rw [if_neg hl, if_neg (by omega)]
  · by_cases h10 : r = 10
    · subst h10
      rw [up_r _ (by decide)]
      by_cases hi : i = 60 * S 2 k + S 0 1 % 60
      · rw [hi, up_s]
        unfold xem
        rw [if_neg (by decide), if_pos rfl, if_pos (by omega), show (60 * S 2 k + S 0 1 % 60) / 60 = S 2 k by omega, lnow_w rfl]
      · rw [up_i _ hi, up_r _ (by decide), xem_10, xem_10]
        by_cases hc : i < 720 ∧ i % 60 = S 0 1 % 60
        · rw [if_pos hc, if_pos hc, lnow_n (by omega)]
        · rw [if_neg hc, if_neg hc]
    · by_cases h11 : r = 11
      · subst h11
        by_cases hi : i = S 2 k
        · rw [hi, up_s]
          unfold xem
          rw [if_neg (by decide), if_neg (by decide), if_pos rfl, if_pos hw, lnow_w rfl, Nat.min_assoc]
        · rw [up_i _ hi, up_r _ (by decide), up_r _ (by decide), xem_11, xem_11, lnow_n (fun q => hi q.symm)]
      · rw [up_r _ h11, up_r _ h10, up_r _ h5]
        unfold xem
        rw [if_neg h5, if_neg h10, if_neg h11, if_neg h5, if_neg h10, if_neg h11]
end
section
/-! the class's methods: the memory, the radio, a minute -/
section XM
variable {l : Launch} {D : va_G} {kc : Nat → ClassId} {A : Nat → Prop} {ad : Nat → Nat} {X B : St} {th : Nat} {ov : Int64} {hw : Nat}
theorem l_set1 {α : Type} {xs : List α} {q : Nat} {x : α} (h : xs[q]? = some x) : xs.set q x = xs := by
  refine List.ext_getElem? fun k => ?_
  by_cases e : q = k
  · subst e
    rw [List.getElem?_set_self', h]
    rfl
  · rw [List.getElem?_set_ne e]
theorem fw0 {ws : va_W} {q0 a n : Nat} {c : ClassId} {f : Nat → Int32} {x : Int32} (ha : ws[q0]? = some (a, .inl (c, n, .inl f))) : ws = ws.set q0 (a, .inl (c, n, .inl (fun j => if j < 0 then x else f j))) := by
  have e : (fun j => if j < 0 then x else f j) = f := funext fun j => if_neg (Nat.not_lt_zero j)
  rw [e, l_set1 ha]
theorem fwg {ws : va_W} {q0 : Nat} {y x : Nat × va_E} (ha : ws[q0]? = some x) : (ws.set q0 y)[q0]? = some y := by rw [List.getElem?_set_self', ha]; rfl
theorem fw1 {ws : va_W} {q0 a n k : Nat} {c : ClassId} {f : Nat → Int32} {x : Int32} : (ws.set q0 (a, .inl (c, n, .inl (fun j => if j < k then x else f j)))).set q0 (a, .inl (c, n, .inl (upd (fun j => if j < k then x else f j) k x))) = ws.set q0 (a, .inl (c, n, .inl (fun j => if j < k + 1 then x else f j))) := by
  rw [List.set_set]
  have e : upd (fun j => if j < k then x else f j) k x = (fun j => if j < k + 1 then x else f j) := funext fun j => by
    unfold upd
    by_cases h : j = k
    · rw [if_pos h, if_pos (by omega)]
    · rw [if_neg h]
      show (if j < k then x else f j) = _
      by_cases h2 : j < k
      · rw [if_pos h2, if_pos (by omega)]
      · rw [if_neg h2, if_neg (by omega)]
  rw [e]
theorem mv_J7_fill_53178 : x_MS yJ7_fill_53178 cJ7_fill_53178 4 none 2 := ⟨kw_49, kw_19, ⟨by decide +kernel, by decide +kernel⟩, by decide +kernel, kw_48⟩
abbrev rm_J7_fill_53178 : Room := { frames := 0, cells := 0, slots := 0, locals := 0 }
set_option maxRecDepth 20000 in
set_option maxHeartbeats 2000000 in
theorem c_fill {ws : va_W} {q0 a n : Nat} {f : Nat → Int32} {x : Int32} (ha : ws[q0]? = some (a, .inl (kc 0, n, .inl f))) (hn : n < 2 ^ 20) : x_Ret l D kc A yJ7_fill_53178 cJ7_fill_53178 4 none rm_J7_fill_53178 [.ref a, .int x] (ws) (none) (ws.set q0 (a, .inl (kc 0, n, .inl (fun j => if j < n then x else f j)))) := by
  refine x_ret_of RJ7 (by decide +kernel) rfl [some (.ref a), some (.int x), none, none] (Nat.le_of_ble_eq_true rfl) rfl rfl ?_
  intro p e s m args below meth c M hr hlk hnm TB hAA
  have loop : ∀ (d k : Nat), k + d = n → x_X p l e rm_J7_fill_53178 s m args below meth c D A 4 0 0 (MQ below (x_Qc D A (none) (ws.set q0 (a, .inl (kc 0, n, .inl (fun j => if j < n then x else f j))))) args s rm_J7_fill_53178.cells rm_J7_fill_53178.slots A) (ws.set q0 (a, .inl (kc 0, n, .inl (fun j => if j < k then x else f j)))) 5 [some (.ref a), some (.int x), some (.int (nI k)), some (.int (nI n))] [] := by
    intro d
    induction d with
    | zero =>
      intro k hk
      have e : k = n := by omega
      subst e
      refine x_iload2 M dJ7_fill_53178_5 ?_
      refine x_iload3 M dJ7_fill_53178_6 ?_
      refine n_icmp_ge (tgt := 20) M (by first | omega | exact hB _ _) (by first | omega | exact hB _ _) dJ7_fill_53178_7 (by decide) (fun q7 => ?_) (fun q7 => absurd q7 (by omega))
      exact x_vret M hr hlk dJ7_fill_53178_20 ⟨by decide, by decide⟩ rfl rfl
    | succ d ih =>
      intro k hk
      refine x_iload2 M dJ7_fill_53178_5 ?_
      refine x_iload3 M dJ7_fill_53178_6 ?_
      refine n_icmp_ge (tgt := 20) M (by first | omega | exact hB _ _) (by first | omega | exact hB _ _) dJ7_fill_53178_7 (by decide) (fun q7 => absurd q7 (by omega)) (fun q7 => ?_)
      refine x_aload0 M dJ7_fill_53178_10 ?_
      refine x_iload2 M dJ7_fill_53178_11 ?_
      refine x_iload1 M dJ7_fill_53178_12 ?_
      refine x_iast M TB (fwg ha) (by omega) (by omega) dJ7_fill_53178_13 ?_
      refine n_inc2 M dJ7_fill_53178_14 ?_
      refine x_goto (tgt := 5) M dJ7_fill_53178_17 (by decide) ?_
      exact x_ws fw1 (ih (k + 1) (by omega))
  refine x_iconst (v := nI 0) M dJ7_fill_53178_0 (by decide +kernel) ?_
  refine x_istore2 M dJ7_fill_53178_1 ?_
  refine x_aload0 M dJ7_fill_53178_2 ?_
  refine x_alen M TB (t0 := 0) ha rfl dJ7_fill_53178_3 ?_
  refine x_istore3 M dJ7_fill_53178_4 ?_
  exact x_ws (fw0 ha) (loop n 0 (by omega))
theorem wl_opn {r : Nat} (hr : X 0 1 % 60 = r) : (wl kc ad X B th ov hw).set (31 + r) (ad (31 + r), .inl (kc 0, 12, .inl (fun j => if j < 12 then nI 10000 else nI (X 10 (60 * j + r))))) = wl kc ad (opn X) B th ov hw := by
  have hq : X 0 1 % 60 < 60 := Nat.mod_lt _ (by decide)
  refine wl_set (by omega) ?_ ?_
  · rw [ct_row (by omega)]
    refine congrArg (fun f => (Sum.inl (kc 0, 12, Sum.inl f) : va_E)) (funext fun k => ?_)
    unfold opn
    rw [if_pos rfl]
    by_cases h : k < 12
    · rw [if_pos h, if_pos (by omega)]
    · rw [if_neg h, if_neg (by omega)]
  · intro c2 h1 h2
    unfold ct
    split
    · unfold ctS
      split <;> rfl
    · split
      · rfl
      · refine congrArg (fun f => (Sum.inl (kc 0, 12, Sum.inl f) : va_E)) (funext fun k => ?_)
        unfold opn
        rw [if_pos rfl, if_neg (by omega)]
theorem mv_X1_openMinute : x_MV yX1_openMinute cX1_openMinute 2 none 1 := ⟨kw_342, kw_18, ⟨by decide +kernel, by decide +kernel⟩, by decide +kernel, kw_340, kw_341⟩
abbrev rm_X1_openMinute : Room := { frames := 1, cells := 0, slots := 0, locals := 23 }
set_option maxRecDepth 20000 in
set_option maxHeartbeats 2000000 in
theorem c_openMinute (hO : Ok X) : x_Ret l D kc A yX1_openMinute cX1_openMinute 2 none rm_X1_openMinute [.ref (ad 3), .int (nI (X 0 1))] (wl kc ad X B th ov hw) (none) (wl kc ad (opn X) B th ov hw) := by
  refine x_ret_of RX1 (by decide +kernel) rfl [some (.ref (ad 3)), some (.int (nI (X 0 1)))] (Nat.le_of_ble_eq_true rfl) rfl rfl ?_
  intro p e s m args below meth c M hr hlk hnm TB hAA
  have hB : ∀ r i, X r i < 2 ^ 31 := fun r i => Nat.lt_trans (hO.bd r i) (by decide)
  have hq : X 0 1 % 60 < 60 := Nat.mod_lt _ (by decide)
  refine x_aload0 M dX1_openMinute_0 ?_
  refine gY0 M TB kw_50 dX1_openMinute_1 ?_
  refine x_iload1 M dX1_openMinute_4 ?_
  refine x_bipush (v := nI 60) M dX1_openMinute_5 (by decide +kernel) ?_
  refine n_rem M (by first | omega | exact hB _ _) (by omega) (by first | omega | exact hB _ _) dX1_openMinute_7 ?_
  refine aO M TB (by omega) dX1_openMinute_8 ?_
  refine x_sipush (v := nI 10000) M dX1_openMinute_9 (by decide +kernel) ?_
  refine x_callS0 M TB hAA mv_J7_fill_53178 kw_47 dX1_openMinute_12 (c_fill (wl_row hq) (by decide)) rfl ⟨by decide, by decide⟩ ⟨by decide, by decide⟩ (Nat.le_of_ble_eq_true rfl) ?_
  exact x_vret M hr hlk dX1_openMinute_15 ⟨by decide, by decide⟩ rfl (wl_opn rfl)
theorem mv_X1_note : x_MV yX1_note cX1_note 5 none 3 := ⟨kw_350, kw_18, ⟨by decide +kernel, by decide +kernel⟩, by decide +kernel, kw_348, kw_349⟩
abbrev rm_X1_note : Room := { frames := 1, cells := 0, slots := 0, locals := 21 }
set_option maxRecDepth 20000 in
set_option maxHeartbeats 2000000 in
theorem c_note (hB0 : Bd X) {t w v : Nat} (ht : t < 2 ^ 31) (hw12 : w < 12) (hv : v < 2 ^ 31) : x_Ret l D kc A yX1_note cX1_note 5 none rm_X1_note [.ref (ad 3), .int (nI t), .int (nI w), .int (nI v)] (wl kc ad X B th ov hw) (none) (wl kc ad (up (up X 10 (60 * w + t % 60) (min (X 10 (60 * w + t % 60)) v)) 11 w (min (X 11 w) v)) B th ov hw) := by
  refine x_ret_of RX1 (by decide +kernel) rfl [some (.ref (ad 3)), some (.int (nI t)), some (.int (nI w)), some (.int (nI v)), none] (Nat.le_of_ble_eq_true rfl) rfl rfl ?_
  intro p e s m args below meth c M hr hlk hnm TB hAA
  have hB : ∀ r i, X r i < 2 ^ 31 := fun r i => Nat.lt_trans (hB0 r i) (by decide)
  have hq : t % 60 < 60 := Nat.mod_lt _ (by decide)
  refine x_aload0 M dX1_note_0 ?_
  refine gY0 M TB kw_50 dX1_note_1 ?_
  refine x_iload1 M dX1_note_4 ?_
  refine x_bipush (v := nI 60) M dX1_note_5 (by decide +kernel) ?_
  refine n_rem M (by first | omega | exact hB _ _) (by omega) (by first | omega | exact hB _ _) dX1_note_7 ?_
  refine aO M TB (by omega) dX1_note_8 ?_
  refine x_astore4 M dX1_note_9 ?_
  refine x_aload4 M dX1_note_11 ?_
  refine x_iload2 M dX1_note_13 ?_
  refine x_aload4 M dX1_note_14 ?_
  refine x_iload2 M dX1_note_16 ?_
  refine aW M TB (by omega) (by omega) dX1_note_17 ?_
  refine x_iload3 M dX1_note_18 ?_
  refine x_min M (by first | omega | exact hB _ _) (by first | omega | exact hB _ _) kw_351 ⟨by decide, by decide⟩ ⟨by decide, by decide⟩ (Nat.le_of_ble_eq_true rfl) dX1_note_19 ?_
  refine sW M TB (by omega) (by omega) dX1_note_22 ?_
  refine x_aload0 M dX1_note_23 ?_
  refine gY1 M TB kw_51 dX1_note_24 ?_
  refine x_iload2 M dX1_note_27 ?_
  refine x_aload0 M dX1_note_28 ?_
  refine gY1 M TB kw_51 dX1_note_29 ?_
  refine x_iload2 M dX1_note_32 ?_
  refine aE M TB (by omega) dX1_note_33 ?_
  refine x_iload3 M dX1_note_34 ?_
  refine x_min M (by first | omega | exact hB _ _) (by first | omega | exact hB _ _) kw_351 ⟨by decide, by decide⟩ ⟨by decide, by decide⟩ (Nat.le_of_ble_eq_true rfl) dX1_note_35 ?_
  refine sE M TB (by omega) dX1_note_38 ?_
  exact x_vret M hr hlk dX1_note_39 ⟨by decide, by decide⟩ rfl rfl
theorem mv_X1_leastOfAllTime : x_MV yX1_leastOfAllTime cX1_leastOfAllTime 2 (some FieldType.int) 1 := ⟨kw_408, kw_18, ⟨by decide +kernel, by decide +kernel⟩, by decide +kernel, kw_406, kw_407⟩
abbrev rm_X1_leastOfAllTime : Room := { frames := 0, cells := 0, slots := 0, locals := 0 }
set_option maxRecDepth 20000 in
set_option maxHeartbeats 2000000 in
theorem c_leastOfAllTime {w : Nat} (hw12 : w < 12) : x_Ret l D kc A yX1_leastOfAllTime cX1_leastOfAllTime 2 (some FieldType.int) rm_X1_leastOfAllTime [.ref (ad 3), .int (nI w)] (wl kc ad X B th ov hw) (some (.int (nI (X 11 w)))) (wl kc ad X B th ov hw) := by
  refine x_ret_of RX1 (by decide +kernel) rfl [some (.ref (ad 3)), some (.int (nI w))] (Nat.le_of_ble_eq_true rfl) rfl rfl ?_
  intro p e s m args below meth c M hr hlk hnm TB hAA
  refine x_aload0 M dX1_leastOfAllTime_0 ?_
  refine gY1 M TB kw_51 dX1_leastOfAllTime_1 ?_
  refine x_iload1 M dX1_leastOfAllTime_4 ?_
  refine aE M TB (by omega) dX1_leastOfAllTime_5 ?_
  exact x_iret M hr hlk dX1_leastOfAllTime_6 ⟨by decide, by decide⟩ rfl rfl
theorem mv_X1_leastOfLastHour : x_MV yX1_leastOfLastHour cX1_leastOfLastHour 4 (some FieldType.int) 1 := ⟨kw_397, kw_18, ⟨by decide +kernel, by decide +kernel⟩, by decide +kernel, kw_395, kw_396⟩
abbrev rm_X1_leastOfLastHour : Room := { frames := 1, cells := 0, slots := 0, locals := 21 }
set_option maxRecDepth 20000 in
set_option maxHeartbeats 2000000 in
theorem c_leastOfLastHour (hB0 : Bd X) {w : Nat} (hw12 : w < 12) : x_Ret l D kc A yX1_leastOfLastHour cX1_leastOfLastHour 4 (some FieldType.int) rm_X1_leastOfLastHour [.ref (ad 3), .int (nI w)] (wl kc ad X B th ov hw) (some (.int (nI (lhr X w 60)))) (wl kc ad X B th ov hw) := by
  refine x_ret_of RX1 (by decide +kernel) rfl [some (.ref (ad 3)), some (.int (nI w)), none, none] (Nat.le_of_ble_eq_true rfl) rfl rfl ?_
  intro p e s m args below meth c M hr hlk hnm TB hAA
  have hB : ∀ r i, X r i < 2 ^ 31 := fun r i => Nat.lt_trans (hB0 r i) (by decide)
  have loop : ∀ (d k : Nat), k + d = 60 → x_X p l e rm_X1_leastOfLastHour s m args below meth c D A 4 0 0 (MQ below (x_Qc D A (some (.int (nI (lhr X w 60)))) (wl kc ad X B th ov hw)) args s rm_X1_leastOfLastHour.cells rm_X1_leastOfLastHour.slots A) (wl kc ad X B th ov hw) 6 [some (.ref (ad 3)), some (.int (nI w)), some (.int (nI (lhr X w k))), some (.int (nI k))] [] := by
    intro d
    induction d with
    | zero =>
      intro k hk
      have hl := lhr_le X w k
      refine x_iload3 M dX1_leastOfLastHour_6 ?_
      refine x_bipush (v := nI 60) M dX1_leastOfLastHour_7 (by decide +kernel) ?_
      refine n_icmp_ge (tgt := 31) M (by first | omega | exact hB _ _) (by first | omega | exact hB _ _) dX1_leastOfLastHour_9 (by decide) (fun q9 => ?_) (fun q9 => absurd q9 (by omega))
      refine x_iload2 M dX1_leastOfLastHour_31 ?_
      exact x_iret M hr hlk dX1_leastOfLastHour_32 ⟨by decide, by decide⟩ (by rw [show k = 60 by omega]) rfl
    | succ d ih =>
      intro k hk
      have hl := lhr_le X w k
      refine x_iload3 M dX1_leastOfLastHour_6 ?_
      refine x_bipush (v := nI 60) M dX1_leastOfLastHour_7 (by decide +kernel) ?_
      refine n_icmp_ge (tgt := 31) M (by first | omega | exact hB _ _) (by first | omega | exact hB _ _) dX1_leastOfLastHour_9 (by decide) (fun q9 => absurd q9 (by omega)) (fun q9 => ?_)
      refine x_iload2 M dX1_leastOfLastHour_12 ?_
      refine x_aload0 M dX1_leastOfLastHour_13 ?_
      refine gY0 M TB kw_50 dX1_leastOfLastHour_14 ?_
      refine x_iload3 M dX1_leastOfLastHour_17 ?_
      refine aO M TB (by omega) dX1_leastOfLastHour_18 ?_
      refine x_iload1 M dX1_leastOfLastHour_19 ?_
      refine aW M TB (by omega) (by omega) dX1_leastOfLastHour_20 ?_
      refine x_min M (by first | omega | exact hB _ _) (by first | omega | exact hB _ _) kw_351 ⟨by decide, by decide⟩ ⟨by decide, by decide⟩ (Nat.le_of_ble_eq_true rfl) dX1_leastOfLastHour_21 ?_
      refine x_istore2 M dX1_leastOfLastHour_24 ?_
      refine n_inc3 M dX1_leastOfLastHour_25 ?_
      refine x_goto (tgt := 6) M dX1_leastOfLastHour_28 (by decide) ?_
      exact ih (k + 1) (by omega)
  refine x_sipush (v := nI 10000) M dX1_leastOfLastHour_0 (by decide +kernel) ?_
  refine x_istore2 M dX1_leastOfLastHour_3 ?_
  refine x_iconst (v := nI 0) M dX1_leastOfLastHour_4 (by decide +kernel) ?_
  refine x_istore3 M dX1_leastOfLastHour_5 ?_
  exact loop 60 0 (by omega)
theorem mv_X2_leastShownNow : x_MV yX2_leastShownNow cX2_leastShownNow 4 (some FieldType.int) 1 := ⟨kw_392, kw_17, ⟨by decide +kernel, by decide +kernel⟩, by decide +kernel, kw_391, kw_7⟩
abbrev rm_X2_leastShownNow : Room := { frames := 1, cells := 0, slots := 0, locals := 21 }
set_option maxRecDepth 20000 in
set_option maxHeartbeats 2000000 in
theorem c_leastShownNow (hB0 : Bd X) (hn : X 0 0 ≤ 12) {w : Nat} (hw12 : w < 12) : x_Ret l D kc A yX2_leastShownNow cX2_leastShownNow 4 (some FieldType.int) rm_X2_leastShownNow [.ref (ad 0), .int (nI w)] (wl kc ad X B th ov hw) (some (.int (nI (lnow X w (X 0 0))))) (wl kc ad X B th ov hw) := by
  refine x_ret_of RX2 (by decide +kernel) rfl [some (.ref (ad 0)), some (.int (nI w)), none, none] (Nat.le_of_ble_eq_true rfl) rfl rfl ?_
  intro p e s m args below meth c M hr hlk hnm TB hAA
  have hB : ∀ r i, X r i < 2 ^ 31 := fun r i => Nat.lt_trans (hB0 r i) (by decide)
  have loop : ∀ (d k : Nat), k + d = X 0 0 → x_X p l e rm_X2_leastShownNow s m args below meth c D A 4 0 0 (MQ below (x_Qc D A (some (.int (nI (lnow X w (X 0 0))))) (wl kc ad X B th ov hw)) args s rm_X2_leastShownNow.cells rm_X2_leastShownNow.slots A) (wl kc ad X B th ov hw) 6 [some (.ref (ad 0)), some (.int (nI w)), some (.int (nI (lnow X w k))), some (.int (nI k))] [] := by
    intro d
    induction d with
    | zero =>
      intro k hk
      have hl := lnow_le X w k
      refine x_iload3 M dX2_leastShownNow_6 ?_
      refine x_aload0 M dX2_leastShownNow_7 ?_
      refine gX3 M TB kw_99 dX2_leastShownNow_8 ?_
      refine n_icmp_ge (tgt := 47) M (by first | omega | exact hB _ _) (by first | omega | exact hB _ _) dX2_leastShownNow_11 (by decide) (fun q11 => ?_) (fun q11 => absurd q11 (by omega))
      refine x_iload2 M dX2_leastShownNow_47 ?_
      exact x_iret M hr hlk dX2_leastShownNow_48 ⟨by decide, by decide⟩ (by rw [show k = X 0 0 by omega]) rfl
    | succ d ih =>
      intro k hk
      have hl := lnow_le X w k
      refine x_iload3 M dX2_leastShownNow_6 ?_
      refine x_aload0 M dX2_leastShownNow_7 ?_
      refine gX3 M TB kw_99 dX2_leastShownNow_8 ?_
      refine n_icmp_ge (tgt := 47) M (by first | omega | exact hB _ _) (by first | omega | exact hB _ _) dX2_leastShownNow_11 (by decide) (fun q11 => absurd q11 (by omega)) (fun q11 => ?_)
      refine x_aload0 M dX2_leastShownNow_14 ?_
      refine gX1 M TB kw_97 dX2_leastShownNow_15 ?_
      refine x_iload3 M dX2_leastShownNow_18 ?_
      refine aL M TB (by omega) dX2_leastShownNow_19 ?_
      refine gL0 M TB (by omega) kw_64 dX2_leastShownNow_20 ?_
      refine x_iload1 M dX2_leastShownNow_23 ?_
      refine n_icmp_ne (tgt := 41) M (by first | omega | exact hB _ _) (by first | omega | exact hB _ _) dX2_leastShownNow_24 (by decide) (fun q24 => ?_) (fun q24 => ?_)
      · refine n_inc3 M dX2_leastShownNow_41 ?_
        refine x_goto (tgt := 6) M dX2_leastShownNow_44 (by decide) ?_
        have h9 := ih (k + 1) (by omega)
        rw [lnow_n q24] at h9
        exact h9
      · refine x_iload2 M dX2_leastShownNow_27 ?_
        refine x_aload0 M dX2_leastShownNow_28 ?_
        refine gX1 M TB kw_97 dX2_leastShownNow_29 ?_
        refine x_iload3 M dX2_leastShownNow_32 ?_
        refine aL M TB (by omega) dX2_leastShownNow_33 ?_
        refine gL1 M TB (by omega) kw_66 dX2_leastShownNow_34 ?_
        refine x_min M (by first | omega | exact hB _ _) (by first | omega | exact hB _ _) kw_393 ⟨by decide, by decide⟩ ⟨by decide, by decide⟩ (Nat.le_of_ble_eq_true rfl) dX2_leastShownNow_37 ?_
        refine x_istore2 M dX2_leastShownNow_40 ?_
        refine n_inc3 M dX2_leastShownNow_41 ?_
        refine x_goto (tgt := 6) M dX2_leastShownNow_44 (by decide) ?_
        have h9 := ih (k + 1) (by omega)
        rw [lnow_w q24] at h9
        exact h9
  refine x_sipush (v := nI 10000) M dX2_leastShownNow_0 (by decide +kernel) ?_
  refine x_istore2 M dX2_leastShownNow_3 ?_
  refine x_iconst (v := nI 0) M dX2_leastShownNow_4 (by decide +kernel) ?_
  refine x_istore3 M dX2_leastShownNow_5 ?_
  exact loop (X 0 0) 0 (by omega)
theorem mv_X2_nextToSend : x_MV yX2_nextToSend cX2_nextToSend 3 (some FieldType.int) 0 := ⟨kw_126, kw_17, ⟨by decide +kernel, by decide +kernel⟩, by decide +kernel, kw_124, kw_125⟩
abbrev rm_X2_nextToSend : Room := { frames := 1, cells := 0, slots := 0, locals := 21 }
set_option maxRecDepth 20000 in
set_option maxHeartbeats 2000000 in
theorem c_nextToSend (hB0 : Bd X) (hn : X 0 0 ≤ 12) : x_Ret l D kc A yX2_nextToSend cX2_nextToSend 3 (some FieldType.int) rm_X2_nextToSend [.ref (ad 0)] (wl kc ad X B th ov hw) (some (.int (oI (nxt X (X 0 0))))) (wl kc ad X B th ov hw) := by
  refine x_ret_of RX2 (by decide +kernel) rfl [some (.ref (ad 0)), none, none] (Nat.le_of_ble_eq_true rfl) rfl rfl ?_
  intro p e s m args below meth c M hr hlk hnm TB hAA
  have hB : ∀ r i, X r i < 2 ^ 31 := fun r i => Nat.lt_trans (hB0 r i) (by decide)
  have loop : ∀ (d k : Nat), k + d = X 0 0 → x_X p l e rm_X2_nextToSend s m args below meth c D A 3 0 0 (MQ below (x_Qc D A (some (.int (oI (nxt X (X 0 0))))) (wl kc ad X B th ov hw)) args s rm_X2_nextToSend.cells rm_X2_nextToSend.slots A) (wl kc ad X B th ov hw) 4 [some (.ref (ad 0)), some (.int (oI (nxt X k))), some (.int (nI k))] [] := by
    intro d
    induction d with
    | zero =>
      intro k hk
      refine x_iload2 M dX2_nextToSend_4 ?_
      refine x_aload0 M dX2_nextToSend_5 ?_
      refine gX3 M TB kw_99 dX2_nextToSend_6 ?_
      refine n_icmp_ge (tgt := 59) M (by first | omega | exact hB _ _) (by first | omega | exact hB _ _) dX2_nextToSend_9 (by decide) (fun q9 => ?_) (fun q9 => absurd q9 (by omega))
      refine x_iload1 M dX2_nextToSend_59 ?_
      exact x_iret M hr hlk dX2_nextToSend_60 ⟨by decide, by decide⟩ (by rw [show k = X 0 0 by omega]) rfl
    | succ d ih =>
      intro k hk
      cases hfo : nxt X k with
      | none =>
        refine x_iload2 M dX2_nextToSend_4 ?_
        refine x_aload0 M dX2_nextToSend_5 ?_
        refine gX3 M TB kw_99 dX2_nextToSend_6 ?_
        refine n_icmp_ge (tgt := 59) M (by first | omega | exact hB _ _) (by first | omega | exact hB _ _) dX2_nextToSend_9 (by decide) (fun q9 => absurd q9 (by omega)) (fun q9 => ?_)
        refine x_aload0 M dX2_nextToSend_12 ?_
        refine gX1 M TB kw_97 dX2_nextToSend_13 ?_
        refine x_iload2 M dX2_nextToSend_16 ?_
        refine aL M TB (by omega) dX2_nextToSend_17 ?_
        refine x_aload0 M dX2_nextToSend_18 ?_
        refine gX4 M TB kw_100 dX2_nextToSend_19 ?_
        refine x_callV0 M TB hAA mv_X0_isDue kw_127 dX2_nextToSend_22 (c_isDue hB0 (by omega) (hB _ _)) rfl (wl_lab (by omega)) rfl rfl ⟨by decide, by decide⟩ ⟨by decide, by decide⟩ (Nat.le_of_ble_eq_true rfl) ?_
        refine b_if_eq (tgt := 53) M dX2_nextToSend_25 (by decide) (fun q25 => ?_) (fun q25 => ?_)
        · refine n_inc2 M dX2_nextToSend_53 ?_
          refine x_goto (tgt := 4) M dX2_nextToSend_56 (by decide) ?_
          have h9 := ih (k + 1) (by omega)
          rw [nxt_n hfo, if_neg q25] at h9
          exact h9
        · refine x_iload1 M dX2_nextToSend_28 ?_
          refine x_iconst (v := (-1)) M dX2_nextToSend_29 (by decide +kernel) ?_
          refine x_icmp_eq (tgt := 51) M dX2_nextToSend_30 (by decide) (fun q30 => ?_) (fun q30 => absurd rfl q30)
          refine x_iload2 M dX2_nextToSend_51 ?_
          refine x_istore1 M dX2_nextToSend_52 ?_
          refine n_inc2 M dX2_nextToSend_53 ?_
          refine x_goto (tgt := 4) M dX2_nextToSend_56 (by decide) ?_
          have h9 := ih (k + 1) (by omega)
          rw [nxt_n hfo, if_pos q25] at h9
          exact h9
      | some j =>
        have hj := nxt_of hfo
        refine x_iload2 M dX2_nextToSend_4 ?_
        refine x_aload0 M dX2_nextToSend_5 ?_
        refine gX3 M TB kw_99 dX2_nextToSend_6 ?_
        refine n_icmp_ge (tgt := 59) M (by first | omega | exact hB _ _) (by first | omega | exact hB _ _) dX2_nextToSend_9 (by decide) (fun q9 => absurd q9 (by omega)) (fun q9 => ?_)
        refine x_aload0 M dX2_nextToSend_12 ?_
        refine gX1 M TB kw_97 dX2_nextToSend_13 ?_
        refine x_iload2 M dX2_nextToSend_16 ?_
        refine aL M TB (by omega) dX2_nextToSend_17 ?_
        refine x_aload0 M dX2_nextToSend_18 ?_
        refine gX4 M TB kw_100 dX2_nextToSend_19 ?_
        refine x_callV0 M TB hAA mv_X0_isDue kw_127 dX2_nextToSend_22 (c_isDue hB0 (by omega) (hB _ _)) rfl (wl_lab (by omega)) rfl rfl ⟨by decide, by decide⟩ ⟨by decide, by decide⟩ (Nat.le_of_ble_eq_true rfl) ?_
        refine b_if_eq (tgt := 53) M dX2_nextToSend_25 (by decide) (fun q25 => ?_) (fun q25 => ?_)
        · refine n_inc2 M dX2_nextToSend_53 ?_
          refine x_goto (tgt := 4) M dX2_nextToSend_56 (by decide) ?_
          have h9 := ih (k + 1) (by omega)
          rw [nxt_s hfo, if_neg (fun h => q25 h.1)] at h9
          exact h9
        · refine x_iload1 M dX2_nextToSend_28 ?_
          refine x_iconst (v := (-1)) M dX2_nextToSend_29 (by decide +kernel) ?_
          refine x_icmp_eq (tgt := 51) M dX2_nextToSend_30 (by decide) (fun q30 => absurd q30 (nI_m1 (by omega))) (fun q30 => ?_)
          refine x_aload0 M dX2_nextToSend_33 ?_
          refine gX1 M TB kw_97 dX2_nextToSend_34 ?_
          refine x_iload2 M dX2_nextToSend_37 ?_
          refine aL M TB (by omega) dX2_nextToSend_38 ?_
          refine x_aload0 M dX2_nextToSend_39 ?_
          refine gX1 M TB kw_97 dX2_nextToSend_40 ?_
          refine x_iload1 M dX2_nextToSend_43 ?_
          refine aL M TB (by omega) dX2_nextToSend_44 ?_
          refine x_callV0 M TB hAA mv_X0_isSentBefore kw_131 dX2_nextToSend_45 (c_isSentBefore hB0 (by omega) (by omega) q25.1 hj.2.1) rfl (wl_lab (by omega)) rfl rfl ⟨by decide, by decide⟩ ⟨by decide, by decide⟩ (Nat.le_of_ble_eq_true rfl) ?_
          refine b_if_eq (tgt := 53) M dX2_nextToSend_48 (by decide) (fun q48 => ?_) (fun q48 => ?_)
          · refine n_inc2 M dX2_nextToSend_53 ?_
            refine x_goto (tgt := 4) M dX2_nextToSend_56 (by decide) ?_
            have h9 := ih (k + 1) (by omega)
            rw [nxt_s hfo, if_neg (fun h => q48 h.2)] at h9
            exact h9
          · refine x_iload2 M dX2_nextToSend_51 ?_
            refine x_istore1 M dX2_nextToSend_52 ?_
            refine n_inc2 M dX2_nextToSend_53 ?_
            refine x_goto (tgt := 4) M dX2_nextToSend_56 (by decide) ?_
            have h9 := ih (k + 1) (by omega)
            rw [nxt_s hfo, if_pos ⟨q25, q48⟩] at h9
            exact h9
  refine x_iconst (v := (-1)) M dX2_nextToSend_0 (by decide +kernel) ?_
  refine x_istore1 M dX2_nextToSend_1 ?_
  refine x_iconst (v := nI 0) M dX2_nextToSend_2 (by decide +kernel) ?_
  refine x_istore2 M dX2_nextToSend_3 ?_
  exact loop (X 0 0) 0 (by omega)
end XM
end
section
/-! the class's methods: the end of a minute, a minute, pass -/
section XM
variable {l : Launch} {D : va_G} {kc : Nat → ClassId} {A : Nat → Prop} {ad : Nat → Nat} {X B : St} {th : Nat} {ov : Int64} {hw : Nat}
theorem redr_0 (S : St) (i k : Nat) : redr S i 0 k = S 0 k := by
  unfold redr
  split
  · rfl
  · split <;> rfl
theorem answ_0 (S : St) (i k : Nat) : answ S i 0 k = S 0 k := by
  unfold answ
  split <;> rfl
theorem sen_0 (S : St) (i k : Nat) : sen S i 0 k = S 0 k := by
  unfold sen sen1
  split
  · rfl
  · split
    · rw [answ_0, redr_0]; rfl
    · rfl
theorem slot_0 (S : St) (k : Nat) : (slot S).1 0 k = S 0 k := by
  unfold slot
  split
  · rfl
  · exact sen_0 S _ k
theorem slot_n {S : St} (h : nxt S (S 0 0) = none) : slot S = (S, 0) := by unfold slot; rw [h]
theorem slot_s {S : St} {j : Nat} (h : nxt S (S 0 0) = some j) : slot S = (sen S j, 1) := by unfold slot; rw [h]
theorem mnt_0 (S : St) : (mnt S).1 0 0 = S 0 0 := by
  show (slot (slot (tick S)).1).1 0 0 = S 0 0
  rw [slot_0, slot_0]; rfl
theorem mnt_t (S : St) : (mnt S).1 0 1 = S 0 1 + 1 := by
  show (slot (slot (tick S)).1).1 0 1 = S 0 1 + 1
  rw [slot_0, slot_0]; rfl
theorem Ok_mnt {S : St} (h : Ok S) (ht : S 0 1 < 10000) : Ok (mnt S).1 := Ok_xem (Ok_slot (Ok_slot (Ok_tick h ht))) _
theorem mnts_ok {S : St} (h : Ok S) : ∀ k, S 0 1 + k ≤ 10000 → Ok (mnts S k).1 ∧ (mnts S k).1 0 1 = S 0 1 + k ∧ (mnts S k).1 0 0 = S 0 0
  | 0, _ => ⟨h, rfl, rfl⟩
  | k + 1, hk => by
    obtain ⟨h1, h2, h3⟩ := mnts_ok h k (by omega)
    exact ⟨Ok_mnt h1 (by omega), (mnt_t _).trans (by omega), (mnt_0 _).trans h3⟩
theorem mv_X2_endMinute : x_MV yX2_endMinute cX2_endMinute 2 none 0 := ⟨kw_338, kw_17, ⟨by decide +kernel, by decide +kernel⟩, by decide +kernel, kw_337, kw_6⟩
abbrev rm_X2_endMinute : Room := { frames := 2, cells := 0, slots := 0, locals := 45 }
set_option maxRecDepth 20000 in
set_option maxHeartbeats 2000000 in
theorem c_endMinute (hO : Ok X) : x_Ret l D kc A yX2_endMinute cX2_endMinute 2 none rm_X2_endMinute [.ref (ad 0)] (wl kc ad X B th ov hw) (none) (wl kc ad (xem X (X 0 0)) B th ov hw) := by
  refine x_ret_of RX2 (by decide +kernel) rfl [some (.ref (ad 0)), none] (Nat.le_of_ble_eq_true rfl) rfl rfl ?_
  intro p e s m args below meth c M hr hlk hnm TB hAA
  have hB : ∀ r i, X r i < 2 ^ 31 := fun r i => Nat.lt_trans (hO.bd r i) (by decide)
  have hn := hO.n
  have loop : ∀ (d k : Nat), k + d = X 0 0 → x_X p l e rm_X2_endMinute s m args below meth c D A 2 0 0 (MQ below (x_Qc D A (none) (wl kc ad (xem X (X 0 0)) B th ov hw)) args s rm_X2_endMinute.cells rm_X2_endMinute.slots A) (wl kc ad (xem X k) B th ov hw) 13 [some (.ref (ad 0)), some (.int (nI k))] [] := by
    intro d
    induction d with
    | zero =>
      intro k hk
      have hx := Ok_xem hO k
      have hB : ∀ r i, xem X k r i < 2 ^ 31 := fun r i => Nat.lt_trans (hx.bd r i) (by decide)
      have e0 : xem X k 0 0 = X 0 0 := rfl
      have h5 := hx.bd 5 k
      have hZ : Bd (up (xem X k) 5 k (xem X k 5 k - 1)) := Bd_up hx.bd (by omega)
      refine x_iload1 M dX2_endMinute_13 ?_
      refine x_aload0 M dX2_endMinute_14 ?_
      refine gX3 M TB kw_99 dX2_endMinute_15 ?_
      refine n_icmp_ge (tgt := 65) M (by first | omega | exact hB _ _) (by first | omega | exact hB _ _) dX2_endMinute_18 (by decide) (fun q18 => ?_) (fun q18 => absurd q18 (by omega))
      exact x_vret M hr hlk dX2_endMinute_65 ⟨by decide, by decide⟩ rfl (by rw [show k = X 0 0 by omega])
    | succ d ih =>
      intro k hk
      have hx := Ok_xem hO k
      have hB : ∀ r i, xem X k r i < 2 ^ 31 := fun r i => Nat.lt_trans (hx.bd r i) (by decide)
      have e0 : xem X k 0 0 = X 0 0 := rfl
      have h5 := hx.bd 5 k
      have hZ : Bd (up (xem X k) 5 k (xem X k 5 k - 1)) := Bd_up hx.bd (by omega)
      refine x_iload1 M dX2_endMinute_13 ?_
      refine x_aload0 M dX2_endMinute_14 ?_
      refine gX3 M TB kw_99 dX2_endMinute_15 ?_
      refine n_icmp_ge (tgt := 65) M (by first | omega | exact hB _ _) (by first | omega | exact hB _ _) dX2_endMinute_18 (by decide) (fun q18 => absurd q18 (by omega)) (fun q18 => ?_)
      refine x_aload0 M dX2_endMinute_21 ?_
      refine gX1 M TB kw_97 dX2_endMinute_22 ?_
      refine x_iload1 M dX2_endMinute_25 ?_
      refine aL M TB (by omega) dX2_endMinute_26 ?_
      refine x_callV0 M TB hAA mv_X0_listen kw_343 dX2_endMinute_27 (c_listen (X := xem X k) hx.bd (by omega)) rfl (wl_lab (by omega)) rfl rfl ⟨by decide, by decide⟩ ⟨by decide, by decide⟩ (Nat.le_of_ble_eq_true rfl) ?_
      refine x_aload0 M dX2_endMinute_30 ?_
      refine gX2 M TB kw_98 dX2_endMinute_31 ?_
      refine x_aload0 M dX2_endMinute_34 ?_
      refine gX4 M TB kw_100 dX2_endMinute_35 ?_
      refine x_aload0 M dX2_endMinute_38 ?_
      refine gX1 M TB kw_97 dX2_endMinute_39 ?_
      refine x_iload1 M dX2_endMinute_42 ?_
      refine aL (j := k) M TB (by omega) dX2_endMinute_43 ?_
      refine gL0 M TB (by omega) kw_64 dX2_endMinute_44 ?_
      refine x_aload0 M dX2_endMinute_47 ?_
      refine gX1 M TB kw_97 dX2_endMinute_48 ?_
      refine x_iload1 M dX2_endMinute_51 ?_
      refine aL (j := k) M TB (by omega) dX2_endMinute_52 ?_
      refine gL1 M TB (by omega) kw_66 dX2_endMinute_53 ?_
      refine x_callV0 M TB hAA mv_X1_note kw_347 dX2_endMinute_56 (c_note (X := (up (xem X k) 5 k (xem X k 5 k - 1))) hZ (t := X 0 1) (w := X 2 k) (v := X 3 k) (Nat.lt_trans (hO.bd 0 1) (by decide)) (hO.w k) (Nat.lt_trans (hO.bd 3 k) (by decide))) rfl wl_Y rfl rfl ⟨by decide, by decide⟩ ⟨by decide, by decide⟩ (Nat.le_of_ble_eq_true rfl) ?_
      refine n_inc1 M dX2_endMinute_59 ?_
      refine x_goto (tgt := 13) M dX2_endMinute_62 (by decide) ?_
      exact x_ws (by rw [xem_1 (hO.w k)]) (ih (k + 1) (by omega))
  refine x_aload0 M dX2_endMinute_0 ?_
  refine gX2 M TB kw_98 dX2_endMinute_1 ?_
  refine x_aload0 M dX2_endMinute_4 ?_
  refine gX4 M TB kw_100 dX2_endMinute_5 ?_
  refine x_callV0 M TB hAA mv_X1_openMinute kw_339 dX2_endMinute_8 (c_openMinute hO) rfl wl_Y rfl rfl ⟨by decide, by decide⟩ ⟨by decide, by decide⟩ (Nat.le_of_ble_eq_true rfl) ?_
  refine x_iconst (v := nI 0) M dX2_endMinute_11 (by decide +kernel) ?_
  refine x_istore1 M dX2_endMinute_12 ?_
  exact x_ws (by rw [xem_0 hO]) (loop (X 0 0) 0 (by omega))
theorem mv_X2_passOneMinute : x_MV yX2_passOneMinute cX2_passOneMinute 4 (some FieldType.int) 0 := ⟨kw_318, kw_17, ⟨by decide +kernel, by decide +kernel⟩, by decide +kernel, kw_317, kw_3⟩
abbrev rm_X2_passOneMinute : Room := { frames := 3, cells := 0, slots := 0, locals := 68 }
set_option maxRecDepth 20000 in
set_option maxHeartbeats 2000000 in
theorem c_passOneMinute (hO : Ok X) (ht0 : X 0 1 < 10000) : x_Ret l D kc A yX2_passOneMinute cX2_passOneMinute 4 (some FieldType.int) rm_X2_passOneMinute [.ref (ad 0)] (wl kc ad X B th ov hw) (some (.int (nI (mnt X).2))) (wl kc ad ((mnt X).1) B th ov hw) := by
  refine x_ret_of RX2 (by decide +kernel) rfl [some (.ref (ad 0)), none, none, none] (Nat.le_of_ble_eq_true rfl) rfl rfl ?_
  intro p e s m args below meth c M hr hlk hnm TB hAA
  have hB : ∀ r i, X r i < 2 ^ 31 := fun r i => Nat.lt_trans (hO.bd r i) (by decide)
  have J2 : ∀ (Z : St) (n0 : Nat), Ok Z → Z 0 0 = X 0 0 → xem Z (X 0 0) = (mnt X).1 → n0 = (mnt X).2 → ∀ b3 : Option Value, x_X p l e rm_X2_passOneMinute s m args below meth c D A 4 0 0 (MQ below (x_Qc D A (some (.int (nI (mnt X).2))) (wl kc ad ((mnt X).1) B th ov hw)) args s rm_X2_passOneMinute.cells rm_X2_passOneMinute.slots A) (wl kc ad (Z) B th ov hw) 14 [some (.ref (ad 0)), some (.int (nI n0)), some (.int (nI 2)), b3] [] := by
    intro Z n0 hOZ hz e1 e2 b3
    have hn := hOZ.n
    have ht := hOZ.t
    have hB : ∀ r i, Z r i < 2 ^ 31 := fun r i => Nat.lt_trans (hOZ.bd r i) (by decide)
    refine x_iload2 M dX2_passOneMinute_14 ?_
    refine x_iconst (v := nI 2) M dX2_passOneMinute_15 (by decide +kernel) ?_
    refine n_icmp_ge (tgt := 65) M (by first | omega | exact hB _ _) (by first | omega | exact hB _ _) dX2_passOneMinute_16 (by decide) (fun q16 => ?_) (fun q16 => absurd q16 (by omega))
    refine x_aload0 M dX2_passOneMinute_65 ?_
    refine x_callV0 M TB hAA mv_X2_endMinute kw_335 dX2_passOneMinute_66 (c_endMinute hOZ) rfl wl_X rfl rfl ⟨by decide, by decide⟩ ⟨by decide, by decide⟩ (Nat.le_of_ble_eq_true rfl) ?_
    refine x_iload1 M dX2_passOneMinute_69 ?_
    exact x_iret M hr hlk dX2_passOneMinute_70 ⟨by decide, by decide⟩ (by rw [e2]) (by rw [hz, e1])
  have J1 : ∀ (Z : St) (n0 : Nat), Ok Z → Z 0 0 = X 0 0 → xem (slot Z).1 (X 0 0) = (mnt X).1 → n0 + (slot Z).2 = (mnt X).2 → ∀ b3 : Option Value, x_X p l e rm_X2_passOneMinute s m args below meth c D A 4 0 0 (MQ below (x_Qc D A (some (.int (nI (mnt X).2))) (wl kc ad ((mnt X).1) B th ov hw)) args s rm_X2_passOneMinute.cells rm_X2_passOneMinute.slots A) (wl kc ad (Z) B th ov hw) 14 [some (.ref (ad 0)), some (.int (nI n0)), some (.int (nI 1)), b3] [] := by
    intro Z n0 hOZ hz e1 e2 b3
    have hn := hOZ.n
    have ht := hOZ.t
    have hB : ∀ r i, Z r i < 2 ^ 31 := fun r i => Nat.lt_trans (hOZ.bd r i) (by decide)
    cases hfo : nxt Z (Z 0 0) with
    | none =>
      rw [slot_n hfo] at e1 e2
      refine x_iload2 M dX2_passOneMinute_14 ?_
      refine x_iconst (v := nI 2) M dX2_passOneMinute_15 (by decide +kernel) ?_
      refine n_icmp_ge (tgt := 65) M (by first | omega | exact hB _ _) (by first | omega | exact hB _ _) dX2_passOneMinute_16 (by decide) (fun q16 => absurd q16 (by omega)) (fun q16 => ?_)
      refine x_aload0 M dX2_passOneMinute_19 ?_
      refine x_callV0 M TB hAA mv_X2_nextToSend kw_319 dX2_passOneMinute_20 (c_nextToSend hOZ.bd hn) rfl wl_X rfl rfl ⟨by decide, by decide⟩ ⟨by decide, by decide⟩ (Nat.le_of_ble_eq_true rfl) ?_
      rw [hfo]
      refine x_istore3 M dX2_passOneMinute_23 ?_
      refine x_iload3 M dX2_passOneMinute_24 ?_
      refine x_iconst (v := (-1)) M dX2_passOneMinute_25 (by decide +kernel) ?_
      refine x_icmp_eq (tgt := 59) M dX2_passOneMinute_26 (by decide) (fun q26 => ?_) (fun q26 => absurd rfl q26)
      refine n_inc2 M dX2_passOneMinute_59 ?_
      refine x_goto (tgt := 14) M dX2_passOneMinute_62 (by decide) ?_
      exact J2 Z n0 hOZ hz e1 e2 _
    | some j =>
      have hj := nxt_of hfo
      have hwj := hOZ.w j
      have hgj := hOZ.g j
      rw [slot_s hfo] at e1 e2
      refine x_iload2 M dX2_passOneMinute_14 ?_
      refine x_iconst (v := nI 2) M dX2_passOneMinute_15 (by decide +kernel) ?_
      refine n_icmp_ge (tgt := 65) M (by first | omega | exact hB _ _) (by first | omega | exact hB _ _) dX2_passOneMinute_16 (by decide) (fun q16 => absurd q16 (by omega)) (fun q16 => ?_)
      refine x_aload0 M dX2_passOneMinute_19 ?_
      refine x_callV0 M TB hAA mv_X2_nextToSend kw_319 dX2_passOneMinute_20 (c_nextToSend hOZ.bd hn) rfl wl_X rfl rfl ⟨by decide, by decide⟩ ⟨by decide, by decide⟩ (Nat.le_of_ble_eq_true rfl) ?_
      rw [hfo]
      refine x_istore3 M dX2_passOneMinute_23 ?_
      refine x_iload3 M dX2_passOneMinute_24 ?_
      refine x_iconst (v := (-1)) M dX2_passOneMinute_25 (by decide +kernel) ?_
      refine x_icmp_eq (tgt := 59) M dX2_passOneMinute_26 (by decide) (fun q26 => absurd q26 (nI_m1 (by omega))) (fun q26 => ?_)
      refine x_aload0 M dX2_passOneMinute_29 ?_
      refine gX1 M TB kw_97 dX2_passOneMinute_30 ?_
      refine x_iload3 M dX2_passOneMinute_33 ?_
      refine aL (j := j) M TB (by omega) dX2_passOneMinute_34 ?_
      refine x_aload0 M dX2_passOneMinute_35 ?_
      refine gX0 M TB kw_96 dX2_passOneMinute_36 ?_
      refine x_aload0 M dX2_passOneMinute_39 ?_
      refine gX1 M TB kw_97 dX2_passOneMinute_40 ?_
      refine x_iload3 M dX2_passOneMinute_43 ?_
      refine aL (j := j) M TB (by omega) dX2_passOneMinute_44 ?_
      refine gL0 M TB (by omega) kw_64 dX2_passOneMinute_45 ?_
      refine aP M TB (by omega) dX2_passOneMinute_48 ?_
      refine x_aload0 M dX2_passOneMinute_49 ?_
      refine gX4 M TB kw_100 dX2_passOneMinute_50 ?_
      refine x_callV0 M TB hAA mv_X0_getSending kw_320 dX2_passOneMinute_53 (c_getSending (X := Z) hOZ.bd (i := j) (by omega) (by omega) (hOZ.p _) (hOZ.s _) (by omega)) rfl (wl_lab (by omega)) rfl rfl ⟨by decide, by decide⟩ ⟨by decide, by decide⟩ (Nat.le_of_ble_eq_true rfl) ?_
      refine n_inc1 M dX2_passOneMinute_56 ?_
      refine n_inc2 M dX2_passOneMinute_59 ?_
      refine x_goto (tgt := 14) M dX2_passOneMinute_62 (by decide) ?_
      exact J2 (sen Z j) (n0 + 1) (Ok_sen hOZ j) ((sen_0 Z j 0).trans hz) e1 (by exact e2) _
  have J0 : ∀ (Z : St) (n0 : Nat), Ok Z → Z 0 0 = X 0 0 → xem (slot (slot Z).1).1 (X 0 0) = (mnt X).1 → n0 + (slot Z).2 + (slot (slot Z).1).2 = (mnt X).2 → ∀ b3 : Option Value, x_X p l e rm_X2_passOneMinute s m args below meth c D A 4 0 0 (MQ below (x_Qc D A (some (.int (nI (mnt X).2))) (wl kc ad ((mnt X).1) B th ov hw)) args s rm_X2_passOneMinute.cells rm_X2_passOneMinute.slots A) (wl kc ad (Z) B th ov hw) 14 [some (.ref (ad 0)), some (.int (nI n0)), some (.int (nI 0)), b3] [] := by
    intro Z n0 hOZ hz e1 e2 b3
    have hn := hOZ.n
    have ht := hOZ.t
    have hB : ∀ r i, Z r i < 2 ^ 31 := fun r i => Nat.lt_trans (hOZ.bd r i) (by decide)
    cases hfo : nxt Z (Z 0 0) with
    | none =>
      rw [slot_n hfo] at e1 e2
      refine x_iload2 M dX2_passOneMinute_14 ?_
      refine x_iconst (v := nI 2) M dX2_passOneMinute_15 (by decide +kernel) ?_
      refine n_icmp_ge (tgt := 65) M (by first | omega | exact hB _ _) (by first | omega | exact hB _ _) dX2_passOneMinute_16 (by decide) (fun q16 => absurd q16 (by omega)) (fun q16 => ?_)
      refine x_aload0 M dX2_passOneMinute_19 ?_
      refine x_callV0 M TB hAA mv_X2_nextToSend kw_319 dX2_passOneMinute_20 (c_nextToSend hOZ.bd hn) rfl wl_X rfl rfl ⟨by decide, by decide⟩ ⟨by decide, by decide⟩ (Nat.le_of_ble_eq_true rfl) ?_
      rw [hfo]
      refine x_istore3 M dX2_passOneMinute_23 ?_
      refine x_iload3 M dX2_passOneMinute_24 ?_
      refine x_iconst (v := (-1)) M dX2_passOneMinute_25 (by decide +kernel) ?_
      refine x_icmp_eq (tgt := 59) M dX2_passOneMinute_26 (by decide) (fun q26 => ?_) (fun q26 => absurd rfl q26)
      refine n_inc2 M dX2_passOneMinute_59 ?_
      refine x_goto (tgt := 14) M dX2_passOneMinute_62 (by decide) ?_
      exact J1 Z n0 hOZ hz e1 e2 _
    | some j =>
      have hj := nxt_of hfo
      have hwj := hOZ.w j
      have hgj := hOZ.g j
      rw [slot_s hfo] at e1 e2
      refine x_iload2 M dX2_passOneMinute_14 ?_
      refine x_iconst (v := nI 2) M dX2_passOneMinute_15 (by decide +kernel) ?_
      refine n_icmp_ge (tgt := 65) M (by first | omega | exact hB _ _) (by first | omega | exact hB _ _) dX2_passOneMinute_16 (by decide) (fun q16 => absurd q16 (by omega)) (fun q16 => ?_)
      refine x_aload0 M dX2_passOneMinute_19 ?_
      refine x_callV0 M TB hAA mv_X2_nextToSend kw_319 dX2_passOneMinute_20 (c_nextToSend hOZ.bd hn) rfl wl_X rfl rfl ⟨by decide, by decide⟩ ⟨by decide, by decide⟩ (Nat.le_of_ble_eq_true rfl) ?_
      rw [hfo]
      refine x_istore3 M dX2_passOneMinute_23 ?_
      refine x_iload3 M dX2_passOneMinute_24 ?_
      refine x_iconst (v := (-1)) M dX2_passOneMinute_25 (by decide +kernel) ?_
      refine x_icmp_eq (tgt := 59) M dX2_passOneMinute_26 (by decide) (fun q26 => absurd q26 (nI_m1 (by omega))) (fun q26 => ?_)
      refine x_aload0 M dX2_passOneMinute_29 ?_
      refine gX1 M TB kw_97 dX2_passOneMinute_30 ?_
      refine x_iload3 M dX2_passOneMinute_33 ?_
      refine aL (j := j) M TB (by omega) dX2_passOneMinute_34 ?_
      refine x_aload0 M dX2_passOneMinute_35 ?_
      refine gX0 M TB kw_96 dX2_passOneMinute_36 ?_
      refine x_aload0 M dX2_passOneMinute_39 ?_
      refine gX1 M TB kw_97 dX2_passOneMinute_40 ?_
      refine x_iload3 M dX2_passOneMinute_43 ?_
      refine aL (j := j) M TB (by omega) dX2_passOneMinute_44 ?_
      refine gL0 M TB (by omega) kw_64 dX2_passOneMinute_45 ?_
      refine aP M TB (by omega) dX2_passOneMinute_48 ?_
      refine x_aload0 M dX2_passOneMinute_49 ?_
      refine gX4 M TB kw_100 dX2_passOneMinute_50 ?_
      refine x_callV0 M TB hAA mv_X0_getSending kw_320 dX2_passOneMinute_53 (c_getSending (X := Z) hOZ.bd (i := j) (by omega) (by omega) (hOZ.p _) (hOZ.s _) (by omega)) rfl (wl_lab (by omega)) rfl rfl ⟨by decide, by decide⟩ ⟨by decide, by decide⟩ (Nat.le_of_ble_eq_true rfl) ?_
      refine n_inc1 M dX2_passOneMinute_56 ?_
      refine n_inc2 M dX2_passOneMinute_59 ?_
      refine x_goto (tgt := 14) M dX2_passOneMinute_62 (by decide) ?_
      exact J1 (sen Z j) (n0 + 1) (Ok_sen hOZ j) ((sen_0 Z j 0).trans hz) e1 (by exact e2) _
  refine x_aload0 M dX2_passOneMinute_0 ?_
  refine x_dup M dX2_passOneMinute_1 rfl ?_
  refine gX4 M TB kw_100 dX2_passOneMinute_2 ?_
  refine x_iconst (v := nI 1) M dX2_passOneMinute_5 (by decide +kernel) ?_
  refine n_add M dX2_passOneMinute_6 ?_
  refine pX4 M TB kw_100 dX2_passOneMinute_7 ?_
  refine x_iconst (v := nI 0) M dX2_passOneMinute_10 (by decide +kernel) ?_
  refine x_istore1 M dX2_passOneMinute_11 ?_
  refine x_iconst (v := nI 0) M dX2_passOneMinute_12 (by decide +kernel) ?_
  refine x_istore2 M dX2_passOneMinute_13 ?_
  exact J0 (tick X) 0 (Ok_tick hO ht0) rfl rfl (by show 0 + _ + _ = _ + _; omega) _
theorem mv_X2_pass : x_MV yX2_pass cX2_pass 4 (some FieldType.int) 1 := ⟨kw_313, kw_17, ⟨by decide +kernel, by decide +kernel⟩, by decide +kernel, kw_311, kw_312⟩
abbrev rm_X2_pass : Room := { frames := 4, cells := 0, slots := 0, locals := 91 }
abbrev rt_X2_pass : Room := { frames := 7, cells := 1, slots := 6, locals := 104 }
set_option maxRecDepth 20000 in
set_option maxHeartbeats 2000000 in
theorem c_pass (hO : Ok X) {n : Nat} (h1 : 1 ≤ n) (h2 : n ≤ 200) (ht0 : X 0 1 + n ≤ 10000) : x_Ret l D kc A yX2_pass cX2_pass 4 (some FieldType.int) rm_X2_pass [.ref (ad 0), .int (nI n)] (wl kc ad X B th ov hw) (some (.int (nI (mnts X n).2))) (wl kc ad ((mnts X n).1) B th ov hw) := by
  refine x_ret_of RX2 (by decide +kernel) rfl [some (.ref (ad 0)), some (.int (nI n)), none, none] (Nat.le_of_ble_eq_true rfl) rfl rfl ?_
  intro p e s m args below meth c M hr hlk hnm TB hAA
  have hB : ∀ r i, X r i < 2 ^ 31 := fun r i => Nat.lt_trans (hO.bd r i) (by decide)
  have loop : ∀ (d k : Nat), k + d = n → x_X p l e rm_X2_pass s m args below meth c D A 4 0 0 (MQ below (x_Qc D A (some (.int (nI (mnts X n).2))) (wl kc ad ((mnts X n).1) B th ov hw)) args s rm_X2_pass.cells rm_X2_pass.slots A) (wl kc ad ((mnts X k).1) B th ov hw) 34 [some (.ref (ad 0)), some (.int (nI n)), some (.int (nI (mnts X k).2)), some (.int (nI k))] [] := by
    intro d
    induction d with
    | zero =>
      intro k hk
      obtain ⟨hk1, hk2, hk3⟩ := mnts_ok hO k (by omega)
      refine x_iload3 M dX2_pass_34 ?_
      refine x_iload1 M dX2_pass_35 ?_
      refine n_icmp_ge (tgt := 52) M (by first | omega | exact hB _ _) (by first | omega | exact hB _ _) dX2_pass_36 (by decide) (fun q36 => ?_) (fun q36 => absurd q36 (by omega))
      refine x_iload2 M dX2_pass_52 ?_
      exact x_iret M hr hlk dX2_pass_53 ⟨by decide, by decide⟩ (by rw [show k = n by omega]) (by rw [show k = n by omega])
    | succ d ih =>
      intro k hk
      obtain ⟨hk1, hk2, hk3⟩ := mnts_ok hO k (by omega)
      refine x_iload3 M dX2_pass_34 ?_
      refine x_iload1 M dX2_pass_35 ?_
      refine n_icmp_ge (tgt := 52) M (by first | omega | exact hB _ _) (by first | omega | exact hB _ _) dX2_pass_36 (by decide) (fun q36 => absurd q36 (by omega)) (fun q36 => ?_)
      refine x_iload2 M dX2_pass_39 ?_
      refine x_aload0 M dX2_pass_40 ?_
      refine x_callV0 M TB hAA mv_X2_passOneMinute kw_315 dX2_pass_41 (c_passOneMinute (X := (mnts X k).1) hk1 (by omega)) rfl wl_X rfl rfl ⟨by decide, by decide⟩ ⟨by decide, by decide⟩ (Nat.le_of_ble_eq_true rfl) ?_
      refine n_add M dX2_pass_44 ?_
      refine x_istore2 M dX2_pass_45 ?_
      refine n_inc3 M dX2_pass_46 ?_
      refine x_goto (tgt := 34) M dX2_pass_49 (by decide) ?_
      exact ih (k + 1) (by omega)
  refine x_iload1 M dX2_pass_0 ?_
  refine x_iconst (v := nI 1) M dX2_pass_1 (by decide +kernel) ?_
  refine x_sipush (v := nI 200) M dX2_pass_2 (by decide +kernel) ?_
  refine x_callS0 M TB hAA mv_X2_needWithin kw_219 dX2_pass_5 (c_needWithin h1 h2 (by decide)) rfl ⟨by decide, by decide⟩ ⟨by decide, by decide⟩ (Nat.le_of_ble_eq_true rfl) ?_
  refine x_aload0 M dX2_pass_8 ?_
  refine gX4 M TB kw_100 dX2_pass_9 ?_
  refine x_iload1 M dX2_pass_12 ?_
  refine n_add M dX2_pass_13 ?_
  refine x_sipush (v := nI 10000) M dX2_pass_14 (by decide +kernel) ?_
  refine n_icmp_le (tgt := 30) M (by first | omega | exact hB _ _) (by first | omega | exact hB _ _) dX2_pass_17 (by decide) (fun q17 => ?_) (fun q17 => absurd ht0 (by omega))
  refine x_iconst (v := nI 0) M dX2_pass_30 (by decide +kernel) ?_
  refine x_istore2 M dX2_pass_31 ?_
  refine x_iconst (v := nI 0) M dX2_pass_32 (by decide +kernel) ?_
  refine x_istore3 M dX2_pass_33 ?_
  exact loop n 0 (by omega)
set_option maxRecDepth 20000 in
set_option maxHeartbeats 2000000 in
theorem t_pass1 {x : Int32} (h : ¬ (¬ x < nI 1 ∧ x ≤ nI 200)) (hst0 : l.stackTraces = false) : x_Thr l D kc A yX2_pass cX2_pass 4 (some FieldType.int) rt_X2_pass [.ref (ad 0), .int x] (wl kc ad X B th ov hw) x_IA := by
  refine x_thr_of RX2 (by decide +kernel) rfl [some (.ref (ad 0)), some (.int x), none, none] (Nat.le_of_ble_eq_true rfl) rfl rfl ?_
  intro p e s m args below meth c M hr hlk hno TB hAA
  refine x_iload1 M dX2_pass_0 ?_
  refine x_iconst (v := nI 1) M dX2_pass_1 (by decide +kernel) ?_
  refine x_sipush (v := nI 200) M dX2_pass_2 (by decide +kernel) ?_
  refine x_callST M TB hAA mv_X2_needWithin kw_219 dX2_pass_5 (t_needWithin h hst0) rfl ⟨by decide, by decide⟩ ⟨by decide, by decide⟩ (Nat.le_of_ble_eq_true rfl) ?_
  exact x_Tout hno hlk (by decide) (by decide)
set_option maxRecDepth 20000 in
set_option maxHeartbeats 2000000 in
theorem t_pass2 (hO : Ok X) {n : Nat} (h1 : 1 ≤ n) (h2 : n ≤ 200) (ht0 : 10000 < X 0 1 + n) (hst0 : l.stackTraces = false) : x_Thr l D kc A yX2_pass cX2_pass 4 (some FieldType.int) rt_X2_pass [.ref (ad 0), .int (nI n)] (wl kc ad X B th ov hw) x_IS := by
  refine x_thr_of RX2 (by decide +kernel) rfl [some (.ref (ad 0)), some (.int (nI n)), none, none] (Nat.le_of_ble_eq_true rfl) rfl rfl ?_
  intro p e s m args below meth c M hr hlk hno TB hAA
  have hB : ∀ r i, X r i < 2 ^ 31 := fun r i => Nat.lt_trans (hO.bd r i) (by decide)
  have htt := hO.t
  refine x_iload1 M dX2_pass_0 ?_
  refine x_iconst (v := nI 1) M dX2_pass_1 (by decide +kernel) ?_
  refine x_sipush (v := nI 200) M dX2_pass_2 (by decide +kernel) ?_
  refine x_callS0 M TB hAA mv_X2_needWithin kw_219 dX2_pass_5 (c_needWithin h1 h2 (by decide)) rfl ⟨by decide, by decide⟩ ⟨by decide, by decide⟩ (Nat.le_of_ble_eq_true rfl) ?_
  refine x_aload0 M dX2_pass_8 ?_
  refine gX4 M TB kw_100 dX2_pass_9 ?_
  refine x_iload1 M dX2_pass_12 ?_
  refine n_add M dX2_pass_13 ?_
  refine x_sipush (v := nI 10000) M dX2_pass_14 (by decide +kernel) ?_
  refine n_icmp_le (tgt := 30) M (by first | omega | exact hB _ _) (by first | omega | exact hB _ _) dX2_pass_17 (by decide) (fun q17 => absurd ht0 (by omega)) (fun q17 => ?_)
  exact x_throw M TB hst0 hno hlk (by decide +kernel) kw_257 kwi_IS TB.2.2.2.2.2.2.2.2.2 TB.2.2.1.2.2 at1_IS_56 at2_IS_56 at3_IS_56 dX2_pass_20 dX2_pass_23 dX2_pass_24 dX2_pass_26 dX2_pass_29 ⟨by decide, by decide⟩ ⟨by decide, by decide⟩ ⟨by decide, by decide⟩
end XM
end
section
/-! the class's methods that the law calls -/
section XM
variable {l : Launch} {D : va_G} {kc : Nat → ClassId} {A : Nat → Prop} {ad : Nat → Nat} {X B : St} {th : Nat} {ov : Int64} {hw : Nat}
def hng (S : St) (w : Nat) : St := up (up (up S 2 (S 0 0) w) 3 (S 0 0) (S 1 w)) 0 0 (S 0 0 + 1)
def car (S : St) (j w : Nat) : St := if S 3 j = S 1 w then up (up S 2 j w) 8 j 0 else gets (up (up S 2 j w) 8 j 0) j
theorem cnt_le (S : St) : ∀ k, cnt S k ≤ k
  | 0 => Nat.le_refl _
  | k + 1 => by
    have := cnt_le S k
    unfold cnt
    split <;> omega
theorem spl_ok {S : St} (h : Bd S) (hm : S 0 2 + 12 < 2 ^ 30) (w : Nat) : ∀ k, k ≤ 12 → Bd (spl S w k).1 ∧ (spl S w k).1 0 0 = S 0 0 ∧ (spl S w k).1 0 1 = S 0 1 ∧ (spl S w k).1 0 2 ≤ S 0 2 + k ∧ (∀ i, (spl S w k).1 2 i = S 2 i) ∧ (spl S w k).2 ≤ k
  | 0, _ => ⟨h, rfl, rfl, Nat.le_refl _, fun _ => rfl, Nat.le_refl _⟩
  | k + 1, hk => by
    obtain ⟨h1, h2, h3, h4, h5, h6⟩ := spl_ok h hm w k (by omega)
    have ht := h 0 1
    unfold spl
    split
    · refine ⟨Bd_up (Bd_up (Bd_up h1 (by omega)) (by omega)) (by omega), h2, h3, ?_, h5, by omega⟩
      show (spl S w k).1 0 2 + 1 ≤ _
      omega
    · exact ⟨h1, h2, h3, by omega, h5, by omega⟩
theorem spl_p {S : St} {w k : Nat} (h : S 2 k = w) : spl S w (k + 1) = (gets (spl S w k).1 k, (spl S w k).2 + 1) := if_pos h
theorem spl_m {S : St} {w k : Nat} (h : ¬ S 2 k = w) : spl S w (k + 1) = spl S w k := if_neg h
theorem cnt_z {S : St} {k : Nat} (h : S 8 k = 0) : cnt S (k + 1) = cnt S k := if_pos h
theorem cnt_o {S : St} {k : Nat} (h : ¬ S 8 k = 0) : cnt S (k + 1) = cnt S k + 1 := if_neg h
theorem lie_y {S : St} {k : Nat} (h : S 3 k < S 1 (S 2 k)) : lie S (k + 1) = lie S k ||| (nI 1 <<< (nI k &&& 31)) := if_pos h
theorem lie_n {S : St} {k : Nat} (h : ¬ S 3 k < S 1 (S 2 k)) : lie S (k + 1) = lie S k := if_neg h
theorem mv_X2_price : x_MV yX2_price cX2_price 2 (some FieldType.int) 1 := ⟨kw_248, kw_17, ⟨by decide +kernel, by decide +kernel⟩, by decide +kernel, kw_246, kw_247⟩
abbrev rm_X2_price : Room := { frames := 1, cells := 0, slots := 0, locals := 20 }
abbrev rt_X2_price : Room := { frames := 7, cells := 1, slots := 6, locals := 102 }
set_option maxRecDepth 20000 in
set_option maxHeartbeats 2000000 in
theorem c_price {j : Nat} (hj : j < 12) : x_Ret l D kc A yX2_price cX2_price 2 (some FieldType.int) rm_X2_price [.ref (ad 0), .int (nI j)] (wl kc ad X B th ov hw) (some (.int (nI (X 1 j)))) (wl kc ad X B th ov hw) := by
  refine x_ret_of RX2 (by decide +kernel) rfl [some (.ref (ad 0)), some (.int (nI j))] (Nat.le_of_ble_eq_true rfl) rfl rfl ?_
  intro p e s m args below meth c M hr hlk hnm TB hAA
  refine x_iload1 M dX2_price_0 ?_
  refine x_callS0 M TB hAA mv_X2_needWare kw_148 dX2_price_1 (c_needWare hj) rfl ⟨by decide, by decide⟩ ⟨by decide, by decide⟩ (Nat.le_of_ble_eq_true rfl) ?_
  refine x_aload0 M dX2_price_4 ?_
  refine gX0 M TB kw_96 dX2_price_5 ?_
  refine x_iload1 M dX2_price_8 ?_
  refine aP M TB (by omega) dX2_price_9 ?_
  exact x_iret M hr hlk dX2_price_10 ⟨by decide, by decide⟩ rfl rfl
set_option maxRecDepth 20000 in
set_option maxHeartbeats 2000000 in
theorem t_price {x : Int32} (h : bad 12 x) (hst0 : l.stackTraces = false) : x_Thr l D kc A yX2_price cX2_price 2 (some FieldType.int) rt_X2_price [.ref (ad 0), .int x] (wl kc ad X B th ov hw) x_IO := by
  refine x_thr_of RX2 (by decide +kernel) rfl [some (.ref (ad 0)), some (.int x)] (Nat.le_of_ble_eq_true rfl) rfl rfl ?_
  intro p e s m args below meth c M hr hlk hno TB hAA
  refine x_iload1 M dX2_price_0 ?_
  refine x_callST M TB hAA mv_X2_needWare kw_148 dX2_price_1 (t_needWare h hst0) rfl ⟨by decide, by decide⟩ ⟨by decide, by decide⟩ (Nat.le_of_ble_eq_true rfl) ?_
  exact x_Tout hno hlk (by decide) (by decide)
theorem mv_X2_hang : x_MV yX2_hang cX2_hang 2 (some FieldType.int) 1 := ⟨kw_256, kw_17, ⟨by decide +kernel, by decide +kernel⟩, by decide +kernel, kw_254, kw_255⟩
abbrev rm_X2_hang : Room := { frames := 1, cells := 0, slots := 0, locals := 20 }
abbrev rt_X2_hang : Room := { frames := 7, cells := 1, slots := 6, locals := 102 }
set_option maxRecDepth 20000 in
set_option maxHeartbeats 2000000 in
theorem c_hang (hO : Ok X) (hn : X 0 0 < 12) {j : Nat} (hj : j < 12) : x_Ret l D kc A yX2_hang cX2_hang 2 (some FieldType.int) rm_X2_hang [.ref (ad 0), .int (nI j)] (wl kc ad X B th ov hw) (some (.int (nI (X 0 0)))) (wl kc ad (hng X j) B th ov hw) := by
  refine x_ret_of RX2 (by decide +kernel) rfl [some (.ref (ad 0)), some (.int (nI j))] (Nat.le_of_ble_eq_true rfl) rfl rfl ?_
  intro p e s m args below meth c M hr hlk hnm TB hAA
  have hB : ∀ r i, X r i < 2 ^ 31 := fun r i => Nat.lt_trans (hO.bd r i) (by decide)
  refine x_iload1 M dX2_hang_0 ?_
  refine x_callS0 M TB hAA mv_X2_needWare kw_148 dX2_hang_1 (c_needWare hj) rfl ⟨by decide, by decide⟩ ⟨by decide, by decide⟩ (Nat.le_of_ble_eq_true rfl) ?_
  refine x_aload0 M dX2_hang_4 ?_
  refine gX3 M TB kw_99 dX2_hang_5 ?_
  refine x_bipush (v := nI 12) M dX2_hang_8 (by decide +kernel) ?_
  refine n_icmp_lt (tgt := 23) M (by first | omega | exact hB _ _) (by first | omega | exact hB _ _) dX2_hang_10 (by decide) (fun q10 => ?_) (fun q10 => absurd hn (by omega))
  refine x_aload0 M dX2_hang_23 ?_
  refine gX1 M TB kw_97 dX2_hang_24 ?_
  refine x_aload0 M dX2_hang_27 ?_
  refine gX3 M TB kw_99 dX2_hang_28 ?_
  refine aL (j := X 0 0) M TB hn dX2_hang_31 ?_
  refine x_iload1 M dX2_hang_32 ?_
  refine pL0 M TB hn kw_64 dX2_hang_33 ?_
  refine x_aload0 M dX2_hang_36 ?_
  refine gX1 M TB kw_97 dX2_hang_37 ?_
  refine x_aload0 M dX2_hang_40 ?_
  refine gX3 M TB kw_99 dX2_hang_41 ?_
  refine aL (j := X 0 0) M TB hn dX2_hang_44 ?_
  refine x_aload0 M dX2_hang_45 ?_
  refine gX0 M TB kw_96 dX2_hang_46 ?_
  refine x_iload1 M dX2_hang_49 ?_
  refine aP M TB (by omega) dX2_hang_50 ?_
  refine pL1 M TB hn kw_66 dX2_hang_51 ?_
  refine x_aload0 M dX2_hang_54 ?_
  refine x_dup M dX2_hang_55 rfl ?_
  refine gX3 M TB kw_99 dX2_hang_56 ?_
  refine x_iconst (v := nI 1) M dX2_hang_59 (by decide +kernel) ?_
  refine n_add M dX2_hang_60 ?_
  refine pX3 M TB kw_99 dX2_hang_61 ?_
  refine x_aload0 M dX2_hang_64 ?_
  refine gX3 M TB kw_99 dX2_hang_65 ?_
  refine x_iconst (v := nI 1) M dX2_hang_68 (by decide +kernel) ?_
  refine n_sub (a := X 0 0 + 1) M (by omega) dX2_hang_69 ?_
  exact x_iret M hr hlk dX2_hang_70 ⟨by decide, by decide⟩ (by rw [Nat.add_sub_cancel]) rfl
set_option maxRecDepth 20000 in
set_option maxHeartbeats 2000000 in
theorem t_hang1 {x : Int32} (h : bad 12 x) (hst0 : l.stackTraces = false) : x_Thr l D kc A yX2_hang cX2_hang 2 (some FieldType.int) rt_X2_hang [.ref (ad 0), .int x] (wl kc ad X B th ov hw) x_IO := by
  refine x_thr_of RX2 (by decide +kernel) rfl [some (.ref (ad 0)), some (.int x)] (Nat.le_of_ble_eq_true rfl) rfl rfl ?_
  intro p e s m args below meth c M hr hlk hno TB hAA
  refine x_iload1 M dX2_hang_0 ?_
  refine x_callST M TB hAA mv_X2_needWare kw_148 dX2_hang_1 (t_needWare h hst0) rfl ⟨by decide, by decide⟩ ⟨by decide, by decide⟩ (Nat.le_of_ble_eq_true rfl) ?_
  exact x_Tout hno hlk (by decide) (by decide)
set_option maxRecDepth 20000 in
set_option maxHeartbeats 2000000 in
theorem t_hang2 (hO : Ok X) (hn : 12 ≤ X 0 0) {j : Nat} (hj : j < 12) (hst0 : l.stackTraces = false) : x_Thr l D kc A yX2_hang cX2_hang 2 (some FieldType.int) rt_X2_hang [.ref (ad 0), .int (nI j)] (wl kc ad X B th ov hw) x_IS := by
  refine x_thr_of RX2 (by decide +kernel) rfl [some (.ref (ad 0)), some (.int (nI j))] (Nat.le_of_ble_eq_true rfl) rfl rfl ?_
  intro p e s m args below meth c M hr hlk hno TB hAA
  have hB : ∀ r i, X r i < 2 ^ 31 := fun r i => Nat.lt_trans (hO.bd r i) (by decide)
  refine x_iload1 M dX2_hang_0 ?_
  refine x_callS0 M TB hAA mv_X2_needWare kw_148 dX2_hang_1 (c_needWare hj) rfl ⟨by decide, by decide⟩ ⟨by decide, by decide⟩ (Nat.le_of_ble_eq_true rfl) ?_
  refine x_aload0 M dX2_hang_4 ?_
  refine gX3 M TB kw_99 dX2_hang_5 ?_
  refine x_bipush (v := nI 12) M dX2_hang_8 (by decide +kernel) ?_
  refine n_icmp_lt (tgt := 23) M (by first | omega | exact hB _ _) (by first | omega | exact hB _ _) dX2_hang_10 (by decide) (fun q10 => absurd hn (by omega)) (fun q10 => ?_)
  exact x_throw M TB hst0 hno hlk (by decide +kernel) kw_257 kwi_IS TB.2.2.2.2.2.2.1 TB.2.2.1.2.2 at1_IS_56 at2_IS_56 at3_IS_56 dX2_hang_13 dX2_hang_16 dX2_hang_17 dX2_hang_19 dX2_hang_22 ⟨by decide, by decide⟩ ⟨by decide, by decide⟩ ⟨by decide, by decide⟩
theorem mv_X2_carry : x_MV yX2_carry cX2_carry 4 (some FieldType.boolean) 2 := ⟨kw_279, kw_17, ⟨by decide +kernel, by decide +kernel⟩, by decide +kernel, kw_277, kw_278⟩
abbrev rm_X2_carry : Room := { frames := 1, cells := 0, slots := 0, locals := 21 }
abbrev rt_X2_carry : Room := { frames := 7, cells := 1, slots := 6, locals := 103 }
set_option maxRecDepth 20000 in
set_option maxHeartbeats 2000000 in
theorem c_carry (hO : Ok X) {j : Nat} (hj : j < X 0 0) {w : Nat} (hw12 : w < 12) (hne : X 2 j ≠ w) : x_Ret l D kc A yX2_carry cX2_carry 4 (some FieldType.boolean) rm_X2_carry [.ref (ad 0), .int (nI j), .int (nI w)] (wl kc ad X B th ov hw) (some (.int (if ¬ X 3 j = X 1 w then 1 else 0 : Int32))) (wl kc ad (car X j w) B th ov hw) := by
  refine x_ret_of RX2 (by decide +kernel) rfl [some (.ref (ad 0)), some (.int (nI j)), some (.int (nI w)), none] (Nat.le_of_ble_eq_true rfl) rfl rfl ?_
  intro p e s m args below meth c M hr hlk hnm TB hAA
  have hB : ∀ r i, X r i < 2 ^ 31 := fun r i => Nat.lt_trans (hO.bd r i) (by decide)
  have hn := hO.n
  have hZ : Bd (up (up X 2 j w) 8 j 0) := Bd_up (Bd_up hO.bd (by omega)) (by omega)
  refine x_aload0 M dX2_carry_0 ?_
  refine x_iload1 M dX2_carry_1 ?_
  refine x_callV0 M TB hAA mv_X2_labelOf kw_280 dX2_carry_2 (c_labelOf hO.bd hO.n hj) rfl wl_X rfl rfl ⟨by decide, by decide⟩ ⟨by decide, by decide⟩ (Nat.le_of_ble_eq_true rfl) ?_
  refine x_astore3 M dX2_carry_5 ?_
  refine x_iload2 M dX2_carry_6 ?_
  refine x_callS0 M TB hAA mv_X2_needWare kw_148 dX2_carry_7 (c_needWare hw12) rfl ⟨by decide, by decide⟩ ⟨by decide, by decide⟩ (Nat.le_of_ble_eq_true rfl) ?_
  refine x_aload3 M dX2_carry_10 ?_
  refine gL0 M TB (by omega) kw_64 dX2_carry_11 ?_
  refine x_iload2 M dX2_carry_14 ?_
  refine n_icmp_ne (tgt := 28) M (by first | omega | exact hB _ _) (by first | omega | exact hB _ _) dX2_carry_15 (by decide) (fun q15 => ?_) (fun q15 => absurd q15 hne)
  refine x_aload3 M dX2_carry_28 ?_
  refine x_iload2 M dX2_carry_29 ?_
  refine pL0 M TB (by omega) kw_64 dX2_carry_30 ?_
  refine x_aload3 M dX2_carry_33 ?_
  refine x_iconst (v := (-1)) M dX2_carry_34 (by decide +kernel) ?_
  refine pL4 (v := 0) M TB (by omega) rfl kw_72 dX2_carry_35 ?_
  refine x_aload3 M dX2_carry_38 ?_
  refine gL1 M TB (by omega) kw_66 dX2_carry_39 ?_
  refine x_aload0 M dX2_carry_42 ?_
  refine gX0 M TB kw_96 dX2_carry_43 ?_
  refine x_iload2 M dX2_carry_46 ?_
  refine aP M TB (by omega) dX2_carry_47 ?_
  refine n_icmp_ne (tgt := 53) M (by first | omega | exact hB _ _) (by first | omega | exact hB _ _) dX2_carry_48 (by decide) (fun q48 => ?_) (fun q48 => ?_)
  · refine x_aload0 M dX2_carry_53 ?_
    refine x_aload3 M dX2_carry_54 ?_
    refine x_callV0 M TB hAA mv_X2_giveOrder kw_238 dX2_carry_55 (c_giveOrder (X := (up (up X 2 j w) 8 j 0)) hZ (i := j) (by omega)) rfl wl_X rfl rfl ⟨by decide, by decide⟩ ⟨by decide, by decide⟩ (Nat.le_of_ble_eq_true rfl) ?_
    refine x_iconst (v := nI 1) M dX2_carry_58 (by decide +kernel) ?_
    exact x_zret M hr hlk dX2_carry_59 ⟨by decide, by decide⟩ (Or.inr rfl) (by rw [if_pos (show ¬ X 3 j = X 1 w from q48)]; rfl) (by rw [car, if_neg (show ¬ X 3 j = X 1 w from q48)])
  · refine x_iconst (v := nI 0) M dX2_carry_51 (by decide +kernel) ?_
    exact x_zret M hr hlk dX2_carry_52 ⟨by decide, by decide⟩ (Or.inl rfl) (by rw [if_neg (fun h : ¬ X 3 j = X 1 w => h q48)]; rfl) (by rw [car, if_pos (show X 3 j = X 1 w from q48)])
set_option maxRecDepth 20000 in
set_option maxHeartbeats 2000000 in
theorem t_carry1 {x : Int32} {x2 : Int32} (h : bad (X 0 0) x) (hst0 : l.stackTraces = false) : x_Thr l D kc A yX2_carry cX2_carry 4 (some FieldType.boolean) rt_X2_carry [.ref (ad 0), .int x, .int x2] (wl kc ad X B th ov hw) x_IO := by
  refine x_thr_of RX2 (by decide +kernel) rfl [some (.ref (ad 0)), some (.int x), some (.int x2), none] (Nat.le_of_ble_eq_true rfl) rfl rfl ?_
  intro p e s m args below meth c M hr hlk hno TB hAA
  refine x_aload0 M dX2_carry_0 ?_
  refine x_iload1 M dX2_carry_1 ?_
  refine x_callVT M TB hAA mv_X2_labelOf kw_280 dX2_carry_2 (t_labelOf h hst0) rfl wl_X rfl rfl ⟨by decide, by decide⟩ ⟨by decide, by decide⟩ (Nat.le_of_ble_eq_true rfl) ?_
  exact x_Tout hno hlk (by decide) (by decide)
set_option maxRecDepth 20000 in
set_option maxHeartbeats 2000000 in
theorem t_carry2 (hO : Ok X) {j : Nat} (hj : j < X 0 0) {x2 : Int32} (h : bad 12 x2) (hst0 : l.stackTraces = false) : x_Thr l D kc A yX2_carry cX2_carry 4 (some FieldType.boolean) rt_X2_carry [.ref (ad 0), .int (nI j), .int x2] (wl kc ad X B th ov hw) x_IO := by
  refine x_thr_of RX2 (by decide +kernel) rfl [some (.ref (ad 0)), some (.int (nI j)), some (.int x2), none] (Nat.le_of_ble_eq_true rfl) rfl rfl ?_
  intro p e s m args below meth c M hr hlk hno TB hAA
  have hB : ∀ r i, X r i < 2 ^ 31 := fun r i => Nat.lt_trans (hO.bd r i) (by decide)
  refine x_aload0 M dX2_carry_0 ?_
  refine x_iload1 M dX2_carry_1 ?_
  refine x_callV0 M TB hAA mv_X2_labelOf kw_280 dX2_carry_2 (c_labelOf hO.bd hO.n hj) rfl wl_X rfl rfl ⟨by decide, by decide⟩ ⟨by decide, by decide⟩ (Nat.le_of_ble_eq_true rfl) ?_
  refine x_astore3 M dX2_carry_5 ?_
  refine x_iload2 M dX2_carry_6 ?_
  refine x_callST M TB hAA mv_X2_needWare kw_148 dX2_carry_7 (t_needWare h hst0) rfl ⟨by decide, by decide⟩ ⟨by decide, by decide⟩ (Nat.le_of_ble_eq_true rfl) ?_
  exact x_Tout hno hlk (by decide) (by decide)
set_option maxRecDepth 20000 in
set_option maxHeartbeats 2000000 in
theorem t_carry3 (hO : Ok X) {j : Nat} (hj : j < X 0 0) {w : Nat} (hw12 : w < 12) (he : X 2 j = w) (hst0 : l.stackTraces = false) : x_Thr l D kc A yX2_carry cX2_carry 4 (some FieldType.boolean) rt_X2_carry [.ref (ad 0), .int (nI j), .int (nI w)] (wl kc ad X B th ov hw) x_IS := by
  refine x_thr_of RX2 (by decide +kernel) rfl [some (.ref (ad 0)), some (.int (nI j)), some (.int (nI w)), none] (Nat.le_of_ble_eq_true rfl) rfl rfl ?_
  intro p e s m args below meth c M hr hlk hno TB hAA
  have hB : ∀ r i, X r i < 2 ^ 31 := fun r i => Nat.lt_trans (hO.bd r i) (by decide)
  have hn := hO.n
  refine x_aload0 M dX2_carry_0 ?_
  refine x_iload1 M dX2_carry_1 ?_
  refine x_callV0 M TB hAA mv_X2_labelOf kw_280 dX2_carry_2 (c_labelOf hO.bd hO.n hj) rfl wl_X rfl rfl ⟨by decide, by decide⟩ ⟨by decide, by decide⟩ (Nat.le_of_ble_eq_true rfl) ?_
  refine x_astore3 M dX2_carry_5 ?_
  refine x_iload2 M dX2_carry_6 ?_
  refine x_callS0 M TB hAA mv_X2_needWare kw_148 dX2_carry_7 (c_needWare hw12) rfl ⟨by decide, by decide⟩ ⟨by decide, by decide⟩ (Nat.le_of_ble_eq_true rfl) ?_
  refine x_aload3 M dX2_carry_10 ?_
  refine gL0 M TB (by omega) kw_64 dX2_carry_11 ?_
  refine x_iload2 M dX2_carry_14 ?_
  refine n_icmp_ne (tgt := 28) M (by first | omega | exact hB _ _) (by first | omega | exact hB _ _) dX2_carry_15 (by decide) (fun q15 => absurd he q15) (fun q15 => ?_)
  exact x_throw M TB hst0 hno hlk (by decide +kernel) kw_257 kwi_IS TB.2.2.2.2.2.2.2.2.1 TB.2.2.1.2.2 at1_IS_56 at2_IS_56 at3_IS_56 dX2_carry_18 dX2_carry_21 dX2_carry_22 dX2_carry_24 dX2_carry_27 ⟨by decide, by decide⟩ ⟨by decide, by decide⟩ ⟨by decide, by decide⟩
theorem mv_X2_charge : x_MV yX2_charge cX2_charge 4 (some FieldType.int) 1 := ⟨kw_292, kw_17, ⟨by decide +kernel, by decide +kernel⟩, by decide +kernel, kw_290, kw_291⟩
abbrev rm_X2_charge : Room := { frames := 1, cells := 0, slots := 0, locals := 21 }
abbrev rt_X2_charge : Room := { frames := 7, cells := 1, slots := 6, locals := 103 }
set_option maxRecDepth 20000 in
set_option maxHeartbeats 2000000 in
theorem c_charge (hO : Ok X) {j : Nat} (hj : j < X 0 0) : x_Ret l D kc A yX2_charge cX2_charge 4 (some FieldType.int) rm_X2_charge [.ref (ad 0), .int (nI j)] (wl kc ad X B th ov hw) (some (.int (nI (X 5 j)))) (wl kc ad (up X 5 j 1000) B th ov hw) := by
  refine x_ret_of RX2 (by decide +kernel) rfl [some (.ref (ad 0)), some (.int (nI j)), none, none] (Nat.le_of_ble_eq_true rfl) rfl rfl ?_
  intro p e s m args below meth c M hr hlk hnm TB hAA
  have hB : ∀ r i, X r i < 2 ^ 31 := fun r i => Nat.lt_trans (hO.bd r i) (by decide)
  have hn := hO.n
  refine x_aload0 M dX2_charge_0 ?_
  refine x_iload1 M dX2_charge_1 ?_
  refine x_callV0 M TB hAA mv_X2_labelOf kw_280 dX2_charge_2 (c_labelOf hO.bd hO.n hj) rfl wl_X rfl rfl ⟨by decide, by decide⟩ ⟨by decide, by decide⟩ (Nat.le_of_ble_eq_true rfl) ?_
  refine x_astore2 M dX2_charge_5 ?_
  refine x_aload2 M dX2_charge_6 ?_
  refine gL3 M TB (by omega) kw_70 dX2_charge_7 ?_
  refine x_istore3 M dX2_charge_10 ?_
  refine x_aload2 M dX2_charge_11 ?_
  refine x_sipush (v := nI 1000) M dX2_charge_12 (by decide +kernel) ?_
  refine pL3 M TB (by omega) kw_70 dX2_charge_15 ?_
  refine x_iload3 M dX2_charge_18 ?_
  exact x_iret M hr hlk dX2_charge_19 ⟨by decide, by decide⟩ rfl rfl
set_option maxRecDepth 20000 in
set_option maxHeartbeats 2000000 in
theorem t_charge {x : Int32} (h : bad (X 0 0) x) (hst0 : l.stackTraces = false) : x_Thr l D kc A yX2_charge cX2_charge 4 (some FieldType.int) rt_X2_charge [.ref (ad 0), .int x] (wl kc ad X B th ov hw) x_IO := by
  refine x_thr_of RX2 (by decide +kernel) rfl [some (.ref (ad 0)), some (.int x), none, none] (Nat.le_of_ble_eq_true rfl) rfl rfl ?_
  intro p e s m args below meth c M hr hlk hno TB hAA
  refine x_aload0 M dX2_charge_0 ?_
  refine x_iload1 M dX2_charge_1 ?_
  refine x_callVT M TB hAA mv_X2_labelOf kw_280 dX2_charge_2 (t_labelOf h hst0) rfl wl_X rfl rfl ⟨by decide, by decide⟩ ⟨by decide, by decide⟩ (Nat.le_of_ble_eq_true rfl) ?_
  exact x_Tout hno hlk (by decide) (by decide)
theorem mv_X2_loseSendings : x_MV yX2_loseSendings cX2_loseSendings 5 (some FieldType.int) 2 := ⟨kw_299, kw_17, ⟨by decide +kernel, by decide +kernel⟩, by decide +kernel, kw_297, kw_298⟩
abbrev rm_X2_loseSendings : Room := { frames := 1, cells := 0, slots := 0, locals := 22 }
abbrev rt_X2_loseSendings : Room := { frames := 7, cells := 1, slots := 6, locals := 104 }
set_option maxRecDepth 20000 in
set_option maxHeartbeats 2000000 in
theorem c_loseSendings (hO : Ok X) {j : Nat} (hj : j < X 0 0) {v : Nat} (hv : v ≤ 20) : x_Ret l D kc A yX2_loseSendings cX2_loseSendings 5 (some FieldType.int) rm_X2_loseSendings [.ref (ad 0), .int (nI j), .int (nI v)] (wl kc ad X B th ov hw) (some (.int (nI (X 6 j)))) (wl kc ad (up X 6 j v) B th ov hw) := by
  refine x_ret_of RX2 (by decide +kernel) rfl [some (.ref (ad 0)), some (.int (nI j)), some (.int (nI v)), none, none] (Nat.le_of_ble_eq_true rfl) rfl rfl ?_
  intro p e s m args below meth c M hr hlk hnm TB hAA
  have hB : ∀ r i, X r i < 2 ^ 31 := fun r i => Nat.lt_trans (hO.bd r i) (by decide)
  have hn := hO.n
  refine x_aload0 M dX2_loseSendings_0 ?_
  refine x_iload1 M dX2_loseSendings_1 ?_
  refine x_callV0 M TB hAA mv_X2_labelOf kw_280 dX2_loseSendings_2 (c_labelOf hO.bd hO.n hj) rfl wl_X rfl rfl ⟨by decide, by decide⟩ ⟨by decide, by decide⟩ (Nat.le_of_ble_eq_true rfl) ?_
  refine x_astore3 M dX2_loseSendings_5 ?_
  refine x_iload2 M dX2_loseSendings_6 ?_
  refine x_iconst (v := nI 0) M dX2_loseSendings_7 (by decide +kernel) ?_
  refine x_bipush (v := nI 20) M dX2_loseSendings_8 (by decide +kernel) ?_
  refine x_callS0 M TB hAA mv_X2_needWithin kw_219 dX2_loseSendings_10 (c_needWithin (Nat.zero_le _) hv (by decide)) rfl ⟨by decide, by decide⟩ ⟨by decide, by decide⟩ (Nat.le_of_ble_eq_true rfl) ?_
  refine x_aload3 M dX2_loseSendings_13 ?_
  refine gL6 M TB (by omega) kw_76 dX2_loseSendings_14 ?_
  refine x_istore4 M dX2_loseSendings_17 ?_
  refine x_aload3 M dX2_loseSendings_19 ?_
  refine x_iload2 M dX2_loseSendings_20 ?_
  refine pL6 M TB (by omega) kw_76 dX2_loseSendings_21 ?_
  refine x_iload4 M dX2_loseSendings_24 ?_
  exact x_iret M hr hlk dX2_loseSendings_26 ⟨by decide, by decide⟩ rfl rfl
set_option maxRecDepth 20000 in
set_option maxHeartbeats 2000000 in
theorem t_loseSendings1 {x x2 : Int32} (h : bad (X 0 0) x) (hst0 : l.stackTraces = false) : x_Thr l D kc A yX2_loseSendings cX2_loseSendings 5 (some FieldType.int) rt_X2_loseSendings [.ref (ad 0), .int x, .int x2] (wl kc ad X B th ov hw) x_IO := by
  refine x_thr_of RX2 (by decide +kernel) rfl [some (.ref (ad 0)), some (.int x), some (.int x2), none, none] (Nat.le_of_ble_eq_true rfl) rfl rfl ?_
  intro p e s m args below meth c M hr hlk hno TB hAA
  refine x_aload0 M dX2_loseSendings_0 ?_
  refine x_iload1 M dX2_loseSendings_1 ?_
  refine x_callVT M TB hAA mv_X2_labelOf kw_280 dX2_loseSendings_2 (t_labelOf h hst0) rfl wl_X rfl rfl ⟨by decide, by decide⟩ ⟨by decide, by decide⟩ (Nat.le_of_ble_eq_true rfl) ?_
  exact x_Tout hno hlk (by decide) (by decide)
set_option maxRecDepth 20000 in
set_option maxHeartbeats 2000000 in
theorem t_loseSendings2 (hO : Ok X) {j : Nat} (hj : j < X 0 0) {x2 : Int32} (h : ¬ (¬ x2 < nI 0 ∧ x2 ≤ nI 20)) (hst0 : l.stackTraces = false) : x_Thr l D kc A yX2_loseSendings cX2_loseSendings 5 (some FieldType.int) rt_X2_loseSendings [.ref (ad 0), .int (nI j), .int x2] (wl kc ad X B th ov hw) x_IA := by
  refine x_thr_of RX2 (by decide +kernel) rfl [some (.ref (ad 0)), some (.int (nI j)), some (.int x2), none, none] (Nat.le_of_ble_eq_true rfl) rfl rfl ?_
  intro p e s m args below meth c M hr hlk hno TB hAA
  have hB : ∀ r i, X r i < 2 ^ 31 := fun r i => Nat.lt_trans (hO.bd r i) (by decide)
  refine x_aload0 M dX2_loseSendings_0 ?_
  refine x_iload1 M dX2_loseSendings_1 ?_
  refine x_callV0 M TB hAA mv_X2_labelOf kw_280 dX2_loseSendings_2 (c_labelOf hO.bd hO.n hj) rfl wl_X rfl rfl ⟨by decide, by decide⟩ ⟨by decide, by decide⟩ (Nat.le_of_ble_eq_true rfl) ?_
  refine x_astore3 M dX2_loseSendings_5 ?_
  refine x_iload2 M dX2_loseSendings_6 ?_
  refine x_iconst (v := nI 0) M dX2_loseSendings_7 (by decide +kernel) ?_
  refine x_bipush (v := nI 20) M dX2_loseSendings_8 (by decide +kernel) ?_
  refine x_callST M TB hAA mv_X2_needWithin kw_219 dX2_loseSendings_10 (t_needWithin h hst0) rfl ⟨by decide, by decide⟩ ⟨by decide, by decide⟩ (Nat.le_of_ble_eq_true rfl) ?_
  exact x_Tout hno hlk (by decide) (by decide)
theorem mv_X2_loseAnswers : x_MV yX2_loseAnswers cX2_loseAnswers 5 (some FieldType.int) 2 := ⟨kw_306, kw_17, ⟨by decide +kernel, by decide +kernel⟩, by decide +kernel, kw_304, kw_305⟩
abbrev rm_X2_loseAnswers : Room := { frames := 1, cells := 0, slots := 0, locals := 22 }
abbrev rt_X2_loseAnswers : Room := { frames := 7, cells := 1, slots := 6, locals := 104 }
set_option maxRecDepth 20000 in
set_option maxHeartbeats 2000000 in
theorem c_loseAnswers (hO : Ok X) {j : Nat} (hj : j < X 0 0) {v : Nat} (hv : v ≤ 20) : x_Ret l D kc A yX2_loseAnswers cX2_loseAnswers 5 (some FieldType.int) rm_X2_loseAnswers [.ref (ad 0), .int (nI j), .int (nI v)] (wl kc ad X B th ov hw) (some (.int (nI (X 7 j)))) (wl kc ad (up X 7 j v) B th ov hw) := by
  refine x_ret_of RX2 (by decide +kernel) rfl [some (.ref (ad 0)), some (.int (nI j)), some (.int (nI v)), none, none] (Nat.le_of_ble_eq_true rfl) rfl rfl ?_
  intro p e s m args below meth c M hr hlk hnm TB hAA
  have hB : ∀ r i, X r i < 2 ^ 31 := fun r i => Nat.lt_trans (hO.bd r i) (by decide)
  have hn := hO.n
  refine x_aload0 M dX2_loseAnswers_0 ?_
  refine x_iload1 M dX2_loseAnswers_1 ?_
  refine x_callV0 M TB hAA mv_X2_labelOf kw_280 dX2_loseAnswers_2 (c_labelOf hO.bd hO.n hj) rfl wl_X rfl rfl ⟨by decide, by decide⟩ ⟨by decide, by decide⟩ (Nat.le_of_ble_eq_true rfl) ?_
  refine x_astore3 M dX2_loseAnswers_5 ?_
  refine x_iload2 M dX2_loseAnswers_6 ?_
  refine x_iconst (v := nI 0) M dX2_loseAnswers_7 (by decide +kernel) ?_
  refine x_bipush (v := nI 20) M dX2_loseAnswers_8 (by decide +kernel) ?_
  refine x_callS0 M TB hAA mv_X2_needWithin kw_219 dX2_loseAnswers_10 (c_needWithin (Nat.zero_le _) hv (by decide)) rfl ⟨by decide, by decide⟩ ⟨by decide, by decide⟩ (Nat.le_of_ble_eq_true rfl) ?_
  refine x_aload3 M dX2_loseAnswers_13 ?_
  refine gL7 M TB (by omega) kw_78 dX2_loseAnswers_14 ?_
  refine x_istore4 M dX2_loseAnswers_17 ?_
  refine x_aload3 M dX2_loseAnswers_19 ?_
  refine x_iload2 M dX2_loseAnswers_20 ?_
  refine pL7 M TB (by omega) kw_78 dX2_loseAnswers_21 ?_
  refine x_iload4 M dX2_loseAnswers_24 ?_
  exact x_iret M hr hlk dX2_loseAnswers_26 ⟨by decide, by decide⟩ rfl rfl
set_option maxRecDepth 20000 in
set_option maxHeartbeats 2000000 in
theorem t_loseAnswers1 {x x2 : Int32} (h : bad (X 0 0) x) (hst0 : l.stackTraces = false) : x_Thr l D kc A yX2_loseAnswers cX2_loseAnswers 5 (some FieldType.int) rt_X2_loseAnswers [.ref (ad 0), .int x, .int x2] (wl kc ad X B th ov hw) x_IO := by
  refine x_thr_of RX2 (by decide +kernel) rfl [some (.ref (ad 0)), some (.int x), some (.int x2), none, none] (Nat.le_of_ble_eq_true rfl) rfl rfl ?_
  intro p e s m args below meth c M hr hlk hno TB hAA
  refine x_aload0 M dX2_loseAnswers_0 ?_
  refine x_iload1 M dX2_loseAnswers_1 ?_
  refine x_callVT M TB hAA mv_X2_labelOf kw_280 dX2_loseAnswers_2 (t_labelOf h hst0) rfl wl_X rfl rfl ⟨by decide, by decide⟩ ⟨by decide, by decide⟩ (Nat.le_of_ble_eq_true rfl) ?_
  exact x_Tout hno hlk (by decide) (by decide)
set_option maxRecDepth 20000 in
set_option maxHeartbeats 2000000 in
theorem t_loseAnswers2 (hO : Ok X) {j : Nat} (hj : j < X 0 0) {x2 : Int32} (h : ¬ (¬ x2 < nI 0 ∧ x2 ≤ nI 20)) (hst0 : l.stackTraces = false) : x_Thr l D kc A yX2_loseAnswers cX2_loseAnswers 5 (some FieldType.int) rt_X2_loseAnswers [.ref (ad 0), .int (nI j), .int x2] (wl kc ad X B th ov hw) x_IA := by
  refine x_thr_of RX2 (by decide +kernel) rfl [some (.ref (ad 0)), some (.int (nI j)), some (.int x2), none, none] (Nat.le_of_ble_eq_true rfl) rfl rfl ?_
  intro p e s m args below meth c M hr hlk hno TB hAA
  have hB : ∀ r i, X r i < 2 ^ 31 := fun r i => Nat.lt_trans (hO.bd r i) (by decide)
  refine x_aload0 M dX2_loseAnswers_0 ?_
  refine x_iload1 M dX2_loseAnswers_1 ?_
  refine x_callV0 M TB hAA mv_X2_labelOf kw_280 dX2_loseAnswers_2 (c_labelOf hO.bd hO.n hj) rfl wl_X rfl rfl ⟨by decide, by decide⟩ ⟨by decide, by decide⟩ (Nat.le_of_ble_eq_true rfl) ?_
  refine x_astore3 M dX2_loseAnswers_5 ?_
  refine x_iload2 M dX2_loseAnswers_6 ?_
  refine x_iconst (v := nI 0) M dX2_loseAnswers_7 (by decide +kernel) ?_
  refine x_bipush (v := nI 20) M dX2_loseAnswers_8 (by decide +kernel) ?_
  refine x_callST M TB hAA mv_X2_needWithin kw_219 dX2_loseAnswers_10 (t_needWithin h hst0) rfl ⟨by decide, by decide⟩ ⟨by decide, by decide⟩ (Nat.le_of_ble_eq_true rfl) ?_
  exact x_Tout hno hlk (by decide) (by decide)
theorem mv_X2_time : x_MV yX2_time cX2_time 1 (some FieldType.int) 0 := ⟨kw_118, kw_17, ⟨by decide +kernel, by decide +kernel⟩, by decide +kernel, kw_116, kw_117⟩
abbrev rm_X2_time : Room := { frames := 0, cells := 0, slots := 0, locals := 0 }
set_option maxRecDepth 20000 in
set_option maxHeartbeats 2000000 in
theorem c_time  : x_Ret l D kc A yX2_time cX2_time 1 (some FieldType.int) rm_X2_time [.ref (ad 0)] (wl kc ad X B th ov hw) (some (.int (nI (X 0 1)))) (wl kc ad X B th ov hw) := by
  refine x_ret_of RX2 (by decide +kernel) rfl [some (.ref (ad 0))] (Nat.le_of_ble_eq_true rfl) rfl rfl ?_
  intro p e s m args below meth c M hr hlk hnm TB hAA
  refine x_aload0 M dX2_time_0 ?_
  refine gX4 M TB kw_100 dX2_time_1 ?_
  exact x_iret M hr hlk dX2_time_4 ⟨by decide, by decide⟩ rfl rfl
theorem mv_X2_order : x_MV yX2_order cX2_order 2 (some FieldType.int) 1 := ⟨kw_360, kw_17, ⟨by decide +kernel, by decide +kernel⟩, by decide +kernel, kw_358, kw_359⟩
abbrev rm_X2_order : Room := { frames := 1, cells := 0, slots := 0, locals := 21 }
abbrev rt_X2_order : Room := { frames := 7, cells := 1, slots := 6, locals := 103 }
set_option maxRecDepth 20000 in
set_option maxHeartbeats 2000000 in
theorem c_order (hO : Ok X) {j : Nat} (hj : j < X 0 0) : x_Ret l D kc A yX2_order cX2_order 2 (some FieldType.int) rm_X2_order [.ref (ad 0), .int (nI j)] (wl kc ad X B th ov hw) (some (.int (eo (X 8 j)))) (wl kc ad X B th ov hw) := by
  refine x_ret_of RX2 (by decide +kernel) rfl [some (.ref (ad 0)), some (.int (nI j))] (Nat.le_of_ble_eq_true rfl) rfl rfl ?_
  intro p e s m args below meth c M hr hlk hnm TB hAA
  have hB : ∀ r i, X r i < 2 ^ 31 := fun r i => Nat.lt_trans (hO.bd r i) (by decide)
  have hn := hO.n
  refine x_aload0 M dX2_order_0 ?_
  refine x_iload1 M dX2_order_1 ?_
  refine x_callV0 M TB hAA mv_X2_labelOf kw_280 dX2_order_2 (c_labelOf hO.bd hO.n hj) rfl wl_X rfl rfl ⟨by decide, by decide⟩ ⟨by decide, by decide⟩ (Nat.le_of_ble_eq_true rfl) ?_
  refine gL4 M TB (by omega) kw_72 dX2_order_5 ?_
  exact x_iret M hr hlk dX2_order_8 ⟨by decide, by decide⟩ rfl rfl
set_option maxRecDepth 20000 in
set_option maxHeartbeats 2000000 in
theorem t_order {x : Int32} (h : bad (X 0 0) x) (hst0 : l.stackTraces = false) : x_Thr l D kc A yX2_order cX2_order 2 (some FieldType.int) rt_X2_order [.ref (ad 0), .int x] (wl kc ad X B th ov hw) x_IO := by
  refine x_thr_of RX2 (by decide +kernel) rfl [some (.ref (ad 0)), some (.int x)] (Nat.le_of_ble_eq_true rfl) rfl rfl ?_
  intro p e s m args below meth c M hr hlk hno TB hAA
  refine x_aload0 M dX2_order_0 ?_
  refine x_iload1 M dX2_order_1 ?_
  refine x_callVT M TB hAA mv_X2_labelOf kw_280 dX2_order_2 (t_labelOf h hst0) rfl wl_X rfl rfl ⟨by decide, by decide⟩ ⟨by decide, by decide⟩ (Nat.le_of_ble_eq_true rfl) ?_
  exact x_Tout hno hlk (by decide) (by decide)
theorem mv_X2_shown : x_MV yX2_shown cX2_shown 2 (some FieldType.int) 1 := ⟨kw_367, kw_17, ⟨by decide +kernel, by decide +kernel⟩, by decide +kernel, kw_365, kw_366⟩
abbrev rm_X2_shown : Room := { frames := 1, cells := 0, slots := 0, locals := 21 }
abbrev rt_X2_shown : Room := { frames := 7, cells := 1, slots := 6, locals := 103 }
set_option maxRecDepth 20000 in
set_option maxHeartbeats 2000000 in
theorem c_shown (hO : Ok X) {j : Nat} (hj : j < X 0 0) : x_Ret l D kc A yX2_shown cX2_shown 2 (some FieldType.int) rm_X2_shown [.ref (ad 0), .int (nI j)] (wl kc ad X B th ov hw) (some (.int (nI (X 3 j)))) (wl kc ad X B th ov hw) := by
  refine x_ret_of RX2 (by decide +kernel) rfl [some (.ref (ad 0)), some (.int (nI j))] (Nat.le_of_ble_eq_true rfl) rfl rfl ?_
  intro p e s m args below meth c M hr hlk hnm TB hAA
  have hB : ∀ r i, X r i < 2 ^ 31 := fun r i => Nat.lt_trans (hO.bd r i) (by decide)
  have hn := hO.n
  refine x_aload0 M dX2_shown_0 ?_
  refine x_iload1 M dX2_shown_1 ?_
  refine x_callV0 M TB hAA mv_X2_labelOf kw_280 dX2_shown_2 (c_labelOf hO.bd hO.n hj) rfl wl_X rfl rfl ⟨by decide, by decide⟩ ⟨by decide, by decide⟩ (Nat.le_of_ble_eq_true rfl) ?_
  refine gL1 M TB (by omega) kw_66 dX2_shown_5 ?_
  exact x_iret M hr hlk dX2_shown_8 ⟨by decide, by decide⟩ rfl rfl
set_option maxRecDepth 20000 in
set_option maxHeartbeats 2000000 in
theorem t_shown {x : Int32} (h : bad (X 0 0) x) (hst0 : l.stackTraces = false) : x_Thr l D kc A yX2_shown cX2_shown 2 (some FieldType.int) rt_X2_shown [.ref (ad 0), .int x] (wl kc ad X B th ov hw) x_IO := by
  refine x_thr_of RX2 (by decide +kernel) rfl [some (.ref (ad 0)), some (.int x)] (Nat.le_of_ble_eq_true rfl) rfl rfl ?_
  intro p e s m args below meth c M hr hlk hno TB hAA
  refine x_aload0 M dX2_shown_0 ?_
  refine x_iload1 M dX2_shown_1 ?_
  refine x_callVT M TB hAA mv_X2_labelOf kw_280 dX2_shown_2 (t_labelOf h hst0) rfl wl_X rfl rfl ⟨by decide, by decide⟩ ⟨by decide, by decide⟩ (Nat.le_of_ble_eq_true rfl) ?_
  exact x_Tout hno hlk (by decide) (by decide)
theorem mv_X2_ghosts : x_MV yX2_ghosts cX2_ghosts 2 (some FieldType.int) 1 := ⟨kw_374, kw_17, ⟨by decide +kernel, by decide +kernel⟩, by decide +kernel, kw_372, kw_373⟩
abbrev rm_X2_ghosts : Room := { frames := 1, cells := 0, slots := 0, locals := 21 }
abbrev rt_X2_ghosts : Room := { frames := 7, cells := 1, slots := 6, locals := 103 }
set_option maxRecDepth 20000 in
set_option maxHeartbeats 2000000 in
theorem c_ghosts (hO : Ok X) {j : Nat} (hj : j < X 0 0) : x_Ret l D kc A yX2_ghosts cX2_ghosts 2 (some FieldType.int) rm_X2_ghosts [.ref (ad 0), .int (nI j)] (wl kc ad X B th ov hw) (some (.int (nI (X 4 j)))) (wl kc ad X B th ov hw) := by
  refine x_ret_of RX2 (by decide +kernel) rfl [some (.ref (ad 0)), some (.int (nI j))] (Nat.le_of_ble_eq_true rfl) rfl rfl ?_
  intro p e s m args below meth c M hr hlk hnm TB hAA
  have hB : ∀ r i, X r i < 2 ^ 31 := fun r i => Nat.lt_trans (hO.bd r i) (by decide)
  have hn := hO.n
  refine x_aload0 M dX2_ghosts_0 ?_
  refine x_iload1 M dX2_ghosts_1 ?_
  refine x_callV0 M TB hAA mv_X2_labelOf kw_280 dX2_ghosts_2 (c_labelOf hO.bd hO.n hj) rfl wl_X rfl rfl ⟨by decide, by decide⟩ ⟨by decide, by decide⟩ (Nat.le_of_ble_eq_true rfl) ?_
  refine gL2 M TB (by omega) kw_68 dX2_ghosts_5 ?_
  exact x_iret M hr hlk dX2_ghosts_8 ⟨by decide, by decide⟩ rfl rfl
set_option maxRecDepth 20000 in
set_option maxHeartbeats 2000000 in
theorem t_ghosts {x : Int32} (h : bad (X 0 0) x) (hst0 : l.stackTraces = false) : x_Thr l D kc A yX2_ghosts cX2_ghosts 2 (some FieldType.int) rt_X2_ghosts [.ref (ad 0), .int x] (wl kc ad X B th ov hw) x_IO := by
  refine x_thr_of RX2 (by decide +kernel) rfl [some (.ref (ad 0)), some (.int x)] (Nat.le_of_ble_eq_true rfl) rfl rfl ?_
  intro p e s m args below meth c M hr hlk hno TB hAA
  refine x_aload0 M dX2_ghosts_0 ?_
  refine x_iload1 M dX2_ghosts_1 ?_
  refine x_callVT M TB hAA mv_X2_labelOf kw_280 dX2_ghosts_2 (t_labelOf h hst0) rfl wl_X rfl rfl ⟨by decide, by decide⟩ ⟨by decide, by decide⟩ (Nat.le_of_ble_eq_true rfl) ?_
  exact x_Tout hno hlk (by decide) (by decide)
theorem mv_X2_battery : x_MV yX2_battery cX2_battery 2 (some FieldType.int) 1 := ⟨kw_381, kw_17, ⟨by decide +kernel, by decide +kernel⟩, by decide +kernel, kw_379, kw_380⟩
abbrev rm_X2_battery : Room := { frames := 1, cells := 0, slots := 0, locals := 21 }
abbrev rt_X2_battery : Room := { frames := 7, cells := 1, slots := 6, locals := 103 }
set_option maxRecDepth 20000 in
set_option maxHeartbeats 2000000 in
theorem c_battery (hO : Ok X) {j : Nat} (hj : j < X 0 0) : x_Ret l D kc A yX2_battery cX2_battery 2 (some FieldType.int) rm_X2_battery [.ref (ad 0), .int (nI j)] (wl kc ad X B th ov hw) (some (.int (nI (X 5 j)))) (wl kc ad X B th ov hw) := by
  refine x_ret_of RX2 (by decide +kernel) rfl [some (.ref (ad 0)), some (.int (nI j))] (Nat.le_of_ble_eq_true rfl) rfl rfl ?_
  intro p e s m args below meth c M hr hlk hnm TB hAA
  have hB : ∀ r i, X r i < 2 ^ 31 := fun r i => Nat.lt_trans (hO.bd r i) (by decide)
  have hn := hO.n
  refine x_aload0 M dX2_battery_0 ?_
  refine x_iload1 M dX2_battery_1 ?_
  refine x_callV0 M TB hAA mv_X2_labelOf kw_280 dX2_battery_2 (c_labelOf hO.bd hO.n hj) rfl wl_X rfl rfl ⟨by decide, by decide⟩ ⟨by decide, by decide⟩ (Nat.le_of_ble_eq_true rfl) ?_
  refine gL3 M TB (by omega) kw_70 dX2_battery_5 ?_
  exact x_iret M hr hlk dX2_battery_8 ⟨by decide, by decide⟩ rfl rfl
set_option maxRecDepth 20000 in
set_option maxHeartbeats 2000000 in
theorem t_battery {x : Int32} (h : bad (X 0 0) x) (hst0 : l.stackTraces = false) : x_Thr l D kc A yX2_battery cX2_battery 2 (some FieldType.int) rt_X2_battery [.ref (ad 0), .int x] (wl kc ad X B th ov hw) x_IO := by
  refine x_thr_of RX2 (by decide +kernel) rfl [some (.ref (ad 0)), some (.int x)] (Nat.le_of_ble_eq_true rfl) rfl rfl ?_
  intro p e s m args below meth c M hr hlk hno TB hAA
  refine x_aload0 M dX2_battery_0 ?_
  refine x_iload1 M dX2_battery_1 ?_
  refine x_callVT M TB hAA mv_X2_labelOf kw_280 dX2_battery_2 (t_labelOf h hst0) rfl wl_X rfl rfl ⟨by decide, by decide⟩ ⟨by decide, by decide⟩ (Nat.le_of_ble_eq_true rfl) ?_
  exact x_Tout hno hlk (by decide) (by decide)
theorem mv_X2_orders : x_MV yX2_orders cX2_orders 3 (some FieldType.int) 0 := ⟨kw_122, kw_17, ⟨by decide +kernel, by decide +kernel⟩, by decide +kernel, kw_120, kw_121⟩
abbrev rm_X2_orders : Room := { frames := 0, cells := 0, slots := 0, locals := 0 }
set_option maxRecDepth 20000 in
set_option maxHeartbeats 2000000 in
theorem c_orders (hO : Ok X) : x_Ret l D kc A yX2_orders cX2_orders 3 (some FieldType.int) rm_X2_orders [.ref (ad 0)] (wl kc ad X B th ov hw) (some (.int (nI (cnt X (X 0 0))))) (wl kc ad X B th ov hw) := by
  refine x_ret_of RX2 (by decide +kernel) rfl [some (.ref (ad 0)), none, none] (Nat.le_of_ble_eq_true rfl) rfl rfl ?_
  intro p e s m args below meth c M hr hlk hnm TB hAA
  have hB : ∀ r i, X r i < 2 ^ 31 := fun r i => Nat.lt_trans (hO.bd r i) (by decide)
  have loop : ∀ (d k : Nat), k + d = X 0 0 → x_X p l e rm_X2_orders s m args below meth c D A 3 0 0 (MQ below (x_Qc D A (some (.int (nI (cnt X (X 0 0))))) (wl kc ad X B th ov hw)) args s rm_X2_orders.cells rm_X2_orders.slots A) (wl kc ad X B th ov hw) 4 [some (.ref (ad 0)), some (.int (nI (cnt X k))), some (.int (nI k))] [] := by
    intro d
    induction d with
    | zero =>
      intro k hk
      have hn := hO.n
      refine x_iload2 M dX2_orders_4 ?_
      refine x_aload0 M dX2_orders_5 ?_
      refine gX3 M TB kw_99 dX2_orders_6 ?_
      refine n_icmp_ge (tgt := 34) M (by first | omega | exact hB _ _) (by first | omega | exact hB _ _) dX2_orders_9 (by decide) (fun q9 => ?_) (fun q9 => absurd q9 (by omega))
      refine x_iload1 M dX2_orders_34 ?_
      exact x_iret M hr hlk dX2_orders_35 ⟨by decide, by decide⟩ (by rw [show k = X 0 0 by omega]) rfl
    | succ d ih =>
      intro k hk
      have hn := hO.n
      refine x_iload2 M dX2_orders_4 ?_
      refine x_aload0 M dX2_orders_5 ?_
      refine gX3 M TB kw_99 dX2_orders_6 ?_
      refine n_icmp_ge (tgt := 34) M (by first | omega | exact hB _ _) (by first | omega | exact hB _ _) dX2_orders_9 (by decide) (fun q9 => absurd q9 (by omega)) (fun q9 => ?_)
      refine x_aload0 M dX2_orders_12 ?_
      refine gX1 M TB kw_97 dX2_orders_13 ?_
      refine x_iload2 M dX2_orders_16 ?_
      refine aL M TB (by omega) dX2_orders_17 ?_
      refine gL4 M TB (by omega) kw_72 dX2_orders_18 ?_
      refine x_iconst (v := (-1)) M dX2_orders_21 (by decide +kernel) ?_
      refine e_icmp_eq (tgt := 28) M (by first | omega | exact hB _ _) dX2_orders_22 (by decide) (fun q22 => ?_) (fun q22 => ?_)
      · refine n_inc2 M dX2_orders_28 ?_
        refine x_goto (tgt := 4) M dX2_orders_31 (by decide) ?_
        have h9 := ih (k + 1) (by omega)
        rw [cnt_z q22] at h9
        exact h9
      · refine n_inc1 M dX2_orders_25 ?_
        refine n_inc2 M dX2_orders_28 ?_
        refine x_goto (tgt := 4) M dX2_orders_31 (by decide) ?_
        have h9 := ih (k + 1) (by omega)
        rw [cnt_o q22] at h9
        exact h9
  refine x_iconst (v := nI 0) M dX2_orders_0 (by decide +kernel) ?_
  refine x_istore1 M dX2_orders_1 ?_
  refine x_iconst (v := nI 0) M dX2_orders_2 (by decide +kernel) ?_
  refine x_istore2 M dX2_orders_3 ?_
  exact loop (X 0 0) 0 (by omega)
theorem mv_X2_lies : x_MV yX2_lies cX2_lies 3 (some FieldType.int) 0 := ⟨kw_138, kw_17, ⟨by decide +kernel, by decide +kernel⟩, by decide +kernel, kw_136, kw_137⟩
abbrev rm_X2_lies : Room := { frames := 0, cells := 0, slots := 0, locals := 0 }
set_option maxRecDepth 20000 in
set_option maxHeartbeats 2000000 in
theorem c_lies (hO : Ok X) : x_Ret l D kc A yX2_lies cX2_lies 3 (some FieldType.int) rm_X2_lies [.ref (ad 0)] (wl kc ad X B th ov hw) (some (.int (lie X (X 0 0)))) (wl kc ad X B th ov hw) := by
  refine x_ret_of RX2 (by decide +kernel) rfl [some (.ref (ad 0)), none, none] (Nat.le_of_ble_eq_true rfl) rfl rfl ?_
  intro p e s m args below meth c M hr hlk hnm TB hAA
  have hB : ∀ r i, X r i < 2 ^ 31 := fun r i => Nat.lt_trans (hO.bd r i) (by decide)
  have loop : ∀ (d k : Nat), k + d = X 0 0 → x_X p l e rm_X2_lies s m args below meth c D A 3 0 0 (MQ below (x_Qc D A (some (.int (lie X (X 0 0)))) (wl kc ad X B th ov hw)) args s rm_X2_lies.cells rm_X2_lies.slots A) (wl kc ad X B th ov hw) 4 [some (.ref (ad 0)), some (.int (lie X k)), some (.int (nI k))] [] := by
    intro d
    induction d with
    | zero =>
      intro k hk
      have hn := hO.n
      have hwk := hO.w k
      refine x_iload2 M dX2_lies_4 ?_
      refine x_aload0 M dX2_lies_5 ?_
      refine gX3 M TB kw_99 dX2_lies_6 ?_
      refine n_icmp_ge (tgt := 50) M (by first | omega | exact hB _ _) (by first | omega | exact hB _ _) dX2_lies_9 (by decide) (fun q9 => ?_) (fun q9 => absurd q9 (by omega))
      refine x_iload1 M dX2_lies_50 ?_
      exact x_iret M hr hlk dX2_lies_51 ⟨by decide, by decide⟩ (by rw [show k = X 0 0 by omega]) rfl
    | succ d ih =>
      intro k hk
      have hn := hO.n
      have hwk := hO.w k
      refine x_iload2 M dX2_lies_4 ?_
      refine x_aload0 M dX2_lies_5 ?_
      refine gX3 M TB kw_99 dX2_lies_6 ?_
      refine n_icmp_ge (tgt := 50) M (by first | omega | exact hB _ _) (by first | omega | exact hB _ _) dX2_lies_9 (by decide) (fun q9 => absurd q9 (by omega)) (fun q9 => ?_)
      refine x_aload0 M dX2_lies_12 ?_
      refine gX1 M TB kw_97 dX2_lies_13 ?_
      refine x_iload2 M dX2_lies_16 ?_
      refine aL M TB (by omega) dX2_lies_17 ?_
      refine gL1 M TB (by omega) kw_66 dX2_lies_18 ?_
      refine x_aload0 M dX2_lies_21 ?_
      refine gX0 M TB kw_96 dX2_lies_22 ?_
      refine x_aload0 M dX2_lies_25 ?_
      refine gX1 M TB kw_97 dX2_lies_26 ?_
      refine x_iload2 M dX2_lies_29 ?_
      refine aL M TB (by omega) dX2_lies_30 ?_
      refine gL0 M TB (by omega) kw_64 dX2_lies_31 ?_
      refine aP M TB (by omega) dX2_lies_34 ?_
      refine n_icmp_ge (tgt := 44) M (by first | omega | exact hB _ _) (by first | omega | exact hB _ _) dX2_lies_35 (by decide) (fun q35 => ?_) (fun q35 => ?_)
      · refine n_inc2 M dX2_lies_44 ?_
        refine x_goto (tgt := 4) M dX2_lies_47 (by decide) ?_
        have h9 := ih (k + 1) (by omega)
        rw [lie_n (by omega)] at h9
        exact h9
      · refine x_iload1 M dX2_lies_38 ?_
        refine x_iconst (v := nI 1) M dX2_lies_39 (by decide +kernel) ?_
        refine x_iload2 M dX2_lies_40 ?_
        refine x_ishl M dX2_lies_41 rfl ?_
        refine x_ior M dX2_lies_42 rfl ?_
        refine x_istore1 M dX2_lies_43 ?_
        refine n_inc2 M dX2_lies_44 ?_
        refine x_goto (tgt := 4) M dX2_lies_47 (by decide) ?_
        have h9 := ih (k + 1) (by omega)
        rw [lie_y q35] at h9
        exact h9
  refine x_iconst (v := nI 0) M dX2_lies_0 (by decide +kernel) ?_
  refine x_istore1 M dX2_lies_1 ?_
  refine x_iconst (v := nI 0) M dX2_lies_2 (by decide +kernel) ?_
  refine x_istore2 M dX2_lies_3 ?_
  exact loop (X 0 0) 0 (by omega)
theorem mv_X2_asked : x_MV yX2_asked cX2_asked 3 (some FieldType.int) 1 := ⟨kw_388, kw_17, ⟨by decide +kernel, by decide +kernel⟩, by decide +kernel, kw_386, kw_387⟩
abbrev rm_X2_asked : Room := { frames := 2, cells := 0, slots := 0, locals := 44 }
abbrev rt_X2_asked : Room := { frames := 7, cells := 1, slots := 6, locals := 102 }
set_option maxRecDepth 20000 in
set_option maxHeartbeats 2000000 in
theorem c_asked (hO : Ok X) {j : Nat} (hj : j < 12) : x_Ret l D kc A yX2_asked cX2_asked 3 (some FieldType.int) rm_X2_asked [.ref (ad 0), .int (nI j)] (wl kc ad X B th ov hw) (some (.int (nI (min (X 1 j) (min (lnow X j (X 0 0)) (lhr X j 60)))))) (wl kc ad X B th ov hw) := by
  refine x_ret_of RX2 (by decide +kernel) rfl [some (.ref (ad 0)), some (.int (nI j)), none] (Nat.le_of_ble_eq_true rfl) rfl rfl ?_
  intro p e s m args below meth c M hr hlk hnm TB hAA
  have hB : ∀ r i, X r i < 2 ^ 31 := fun r i => Nat.lt_trans (hO.bd r i) (by decide)
  have h1 := lnow_le X j (X 0 0)
  have h2 := lhr_le X j 60
  refine x_iload1 M dX2_asked_0 ?_
  refine x_callS0 M TB hAA mv_X2_needWare kw_148 dX2_asked_1 (c_needWare hj) rfl ⟨by decide, by decide⟩ ⟨by decide, by decide⟩ (Nat.le_of_ble_eq_true rfl) ?_
  refine x_aload0 M dX2_asked_4 ?_
  refine x_iload1 M dX2_asked_5 ?_
  refine x_callV0 M TB hAA mv_X2_leastShownNow kw_389 dX2_asked_6 (c_leastShownNow hO.bd hO.n hj) rfl wl_X rfl rfl ⟨by decide, by decide⟩ ⟨by decide, by decide⟩ (Nat.le_of_ble_eq_true rfl) ?_
  refine x_aload0 M dX2_asked_9 ?_
  refine gX2 M TB kw_98 dX2_asked_10 ?_
  refine x_iload1 M dX2_asked_13 ?_
  refine x_callV0 M TB hAA mv_X1_leastOfLastHour kw_394 dX2_asked_14 (c_leastOfLastHour hO.bd hj) rfl wl_Y rfl rfl ⟨by decide, by decide⟩ ⟨by decide, by decide⟩ (Nat.le_of_ble_eq_true rfl) ?_
  refine x_min M (by first | omega | exact hB _ _) (by first | omega | exact hB _ _) kw_393 ⟨by decide, by decide⟩ ⟨by decide, by decide⟩ (Nat.le_of_ble_eq_true rfl) dX2_asked_17 ?_
  refine x_istore2 M dX2_asked_20 ?_
  refine x_aload0 M dX2_asked_21 ?_
  refine gX0 M TB kw_96 dX2_asked_22 ?_
  refine x_iload1 M dX2_asked_25 ?_
  refine aP M TB (by omega) dX2_asked_26 ?_
  refine x_iload2 M dX2_asked_27 ?_
  refine x_min M (by first | omega | exact hB _ _) (by first | omega | exact hB _ _) kw_393 ⟨by decide, by decide⟩ ⟨by decide, by decide⟩ (Nat.le_of_ble_eq_true rfl) dX2_asked_28 ?_
  exact x_iret M hr hlk dX2_asked_31 ⟨by decide, by decide⟩ rfl rfl
set_option maxRecDepth 20000 in
set_option maxHeartbeats 2000000 in
theorem t_asked {x : Int32} (h : bad 12 x) (hst0 : l.stackTraces = false) : x_Thr l D kc A yX2_asked cX2_asked 3 (some FieldType.int) rt_X2_asked [.ref (ad 0), .int x] (wl kc ad X B th ov hw) x_IO := by
  refine x_thr_of RX2 (by decide +kernel) rfl [some (.ref (ad 0)), some (.int x), none] (Nat.le_of_ble_eq_true rfl) rfl rfl ?_
  intro p e s m args below meth c M hr hlk hno TB hAA
  refine x_iload1 M dX2_asked_0 ?_
  refine x_callST M TB hAA mv_X2_needWare kw_148 dX2_asked_1 (t_needWare h hst0) rfl ⟨by decide, by decide⟩ ⟨by decide, by decide⟩ (Nat.le_of_ble_eq_true rfl) ?_
  exact x_Tout hno hlk (by decide) (by decide)
theorem mv_X2_leastEver : x_MV yX2_leastEver cX2_leastEver 3 (some FieldType.int) 1 := ⟨kw_404, kw_17, ⟨by decide +kernel, by decide +kernel⟩, by decide +kernel, kw_402, kw_403⟩
abbrev rm_X2_leastEver : Room := { frames := 2, cells := 0, slots := 0, locals := 44 }
abbrev rt_X2_leastEver : Room := { frames := 7, cells := 1, slots := 6, locals := 102 }
set_option maxRecDepth 20000 in
set_option maxHeartbeats 2000000 in
theorem c_leastEver (hO : Ok X) {j : Nat} (hj : j < 12) : x_Ret l D kc A yX2_leastEver cX2_leastEver 3 (some FieldType.int) rm_X2_leastEver [.ref (ad 0), .int (nI j)] (wl kc ad X B th ov hw) (some (.int (em (min (lnow X j (X 0 0)) (X 11 j))))) (wl kc ad X B th ov hw) := by
  refine x_ret_of RX2 (by decide +kernel) rfl [some (.ref (ad 0)), some (.int (nI j)), none] (Nat.le_of_ble_eq_true rfl) rfl rfl ?_
  intro p e s m args below meth c M hr hlk hnm TB hAA
  have hB : ∀ r i, X r i < 2 ^ 31 := fun r i => Nat.lt_trans (hO.bd r i) (by decide)
  have h1 := lnow_le X j (X 0 0)
  refine x_iload1 M dX2_leastEver_0 ?_
  refine x_callS0 M TB hAA mv_X2_needWare kw_148 dX2_leastEver_1 (c_needWare hj) rfl ⟨by decide, by decide⟩ ⟨by decide, by decide⟩ (Nat.le_of_ble_eq_true rfl) ?_
  refine x_aload0 M dX2_leastEver_4 ?_
  refine x_iload1 M dX2_leastEver_5 ?_
  refine x_callV0 M TB hAA mv_X2_leastShownNow kw_389 dX2_leastEver_6 (c_leastShownNow hO.bd hO.n hj) rfl wl_X rfl rfl ⟨by decide, by decide⟩ ⟨by decide, by decide⟩ (Nat.le_of_ble_eq_true rfl) ?_
  refine x_aload0 M dX2_leastEver_9 ?_
  refine gX2 M TB kw_98 dX2_leastEver_10 ?_
  refine x_iload1 M dX2_leastEver_13 ?_
  refine x_callV0 M TB hAA mv_X1_leastOfAllTime kw_405 dX2_leastEver_14 (c_leastOfAllTime hj) rfl wl_Y rfl rfl ⟨by decide, by decide⟩ ⟨by decide, by decide⟩ (Nat.le_of_ble_eq_true rfl) ?_
  refine x_min M (by first | omega | exact hB _ _) (by first | omega | exact hB _ _) kw_393 ⟨by decide, by decide⟩ ⟨by decide, by decide⟩ (Nat.le_of_ble_eq_true rfl) dX2_leastEver_17 ?_
  refine x_istore2 M dX2_leastEver_20 ?_
  refine x_iload2 M dX2_leastEver_21 ?_
  refine x_sipush (v := nI 10000) M dX2_leastEver_22 (by decide +kernel) ?_
  refine n_icmp_ne (tgt := 32) M (by first | omega | exact hB _ _) (by first | omega | exact hB _ _) dX2_leastEver_25 (by decide) (fun q25 => ?_) (fun q25 => ?_)
  · refine x_iload2 M dX2_leastEver_32 ?_
    exact x_iret M hr hlk dX2_leastEver_33 ⟨by decide, by decide⟩ (by rw [em, if_neg q25]) rfl
  · refine x_iconst (v := (-1)) M dX2_leastEver_28 (by decide +kernel) ?_
    refine x_goto (tgt := 33) M dX2_leastEver_29 (by decide) ?_
    exact x_iret M hr hlk dX2_leastEver_33 ⟨by decide, by decide⟩ (by rw [em, if_pos q25]) rfl
set_option maxRecDepth 20000 in
set_option maxHeartbeats 2000000 in
theorem t_leastEver {x : Int32} (h : bad 12 x) (hst0 : l.stackTraces = false) : x_Thr l D kc A yX2_leastEver cX2_leastEver 3 (some FieldType.int) rt_X2_leastEver [.ref (ad 0), .int x] (wl kc ad X B th ov hw) x_IO := by
  refine x_thr_of RX2 (by decide +kernel) rfl [some (.ref (ad 0)), some (.int x), none] (Nat.le_of_ble_eq_true rfl) rfl rfl ?_
  intro p e s m args below meth c M hr hlk hno TB hAA
  refine x_iload1 M dX2_leastEver_0 ?_
  refine x_callST M TB hAA mv_X2_needWare kw_148 dX2_leastEver_1 (t_needWare h hst0) rfl ⟨by decide, by decide⟩ ⟨by decide, by decide⟩ (Nat.le_of_ble_eq_true rfl) ?_
  exact x_Tout hno hlk (by decide) (by decide)
theorem mv_X2_setPrice : x_MV yX2_setPrice cX2_setPrice 5 (some FieldType.int) 2 := ⟨kw_147, kw_17, ⟨by decide +kernel, by decide +kernel⟩, by decide +kernel, kw_145, kw_146⟩
abbrev rm_X2_setPrice : Room := { frames := 1, cells := 0, slots := 0, locals := 22 }
abbrev rt_X2_setPrice : Room := { frames := 7, cells := 1, slots := 6, locals := 104 }
set_option maxRecDepth 20000 in
set_option maxHeartbeats 2000000 in
theorem c_setPrice0 (hO : Ok X) {j v : Nat} (hj : j < 12) (hv : v ≤ 9999) (he : X 1 j = v) : x_Ret l D kc A yX2_setPrice cX2_setPrice 5 (some FieldType.int) rm_X2_setPrice [.ref (ad 0), .int (nI j), .int (nI v)] (wl kc ad X B th ov hw) (some (.int (nI 0))) (wl kc ad X B th ov hw) := by
  refine x_ret_of RX2 (by decide +kernel) rfl [some (.ref (ad 0)), some (.int (nI j)), some (.int (nI v)), none, none] (Nat.le_of_ble_eq_true rfl) rfl rfl ?_
  intro p e s m args below meth c M hr hlk hnm TB hAA
  have hB : ∀ r i, X r i < 2 ^ 31 := fun r i => Nat.lt_trans (hO.bd r i) (by decide)
  refine x_iload1 M dX2_setPrice_0 ?_
  refine x_callS0 M TB hAA mv_X2_needWare kw_148 dX2_setPrice_1 (c_needWare hj) rfl ⟨by decide, by decide⟩ ⟨by decide, by decide⟩ (Nat.le_of_ble_eq_true rfl) ?_
  refine x_iload2 M dX2_setPrice_4 ?_
  refine x_iconst (v := nI 0) M dX2_setPrice_5 (by decide +kernel) ?_
  refine x_sipush (v := nI 9999) M dX2_setPrice_6 (by decide +kernel) ?_
  refine x_callS0 M TB hAA mv_X2_needWithin kw_219 dX2_setPrice_9 (c_needWithin (Nat.zero_le _) hv (by decide)) rfl ⟨by decide, by decide⟩ ⟨by decide, by decide⟩ (Nat.le_of_ble_eq_true rfl) ?_
  refine x_aload0 M dX2_setPrice_12 ?_
  refine gX0 M TB kw_96 dX2_setPrice_13 ?_
  refine x_iload1 M dX2_setPrice_16 ?_
  refine aP M TB (by omega) dX2_setPrice_17 ?_
  refine x_iload2 M dX2_setPrice_18 ?_
  refine n_icmp_ne (tgt := 24) M (by first | omega | exact hB _ _) (by first | omega | exact hB _ _) dX2_setPrice_19 (by decide) (fun q19 => absurd he q19) (fun q19 => ?_)
  refine x_iconst (v := nI 0) M dX2_setPrice_22 (by decide +kernel) ?_
  exact x_iret M hr hlk dX2_setPrice_23 ⟨by decide, by decide⟩ rfl rfl
set_option maxRecDepth 20000 in
set_option maxHeartbeats 2000000 in
theorem c_setPrice (hO : Ok X) (hm : X 0 2 + 12 < 2 ^ 30) {j v : Nat} (hj : j < 12) (hv : v ≤ 9999) (he : X 1 j ≠ v) : x_Ret l D kc A yX2_setPrice cX2_setPrice 5 (some FieldType.int) rm_X2_setPrice [.ref (ad 0), .int (nI j), .int (nI v)] (wl kc ad X B th ov hw) (some (.int (nI (spl (up X 1 j v) j (X 0 0)).2))) (wl kc ad ((spl (up X 1 j v) j (X 0 0)).1) B th ov hw) := by
  refine x_ret_of RX2 (by decide +kernel) rfl [some (.ref (ad 0)), some (.int (nI j)), some (.int (nI v)), none, none] (Nat.le_of_ble_eq_true rfl) rfl rfl ?_
  intro p e s m args below meth c M hr hlk hnm TB hAA
  have hB : ∀ r i, X r i < 2 ^ 31 := fun r i => Nat.lt_trans (hO.bd r i) (by decide)
  have hn := hO.n
  have hY : Bd (up X 1 j v) := Bd_up hO.bd (by omega)
  have loop : ∀ (d k : Nat), k + d = X 0 0 → x_X p l e rm_X2_setPrice s m args below meth c D A 5 0 0 (MQ below (x_Qc D A (some (.int (nI (spl (up X 1 j v) j (X 0 0)).2))) (wl kc ad ((spl (up X 1 j v) j (X 0 0)).1) B th ov hw)) args s rm_X2_setPrice.cells rm_X2_setPrice.slots A) (wl kc ad ((spl (up X 1 j v) j k).1) B th ov hw) 36 [some (.ref (ad 0)), some (.int (nI j)), some (.int (nI v)), some (.int (nI (spl (up X 1 j v) j k).2)), some (.int (nI k))] [] := by
    intro d
    induction d with
    | zero =>
      intro k hk
      obtain ⟨hs1, hs2, hs3, hs4, hs5, hs6⟩ := spl_ok hY hm j k (by omega)
      have hB : ∀ r i, (spl (up X 1 j v) j k).1 r i < 2 ^ 31 := fun r i => Nat.lt_trans (hs1 r i) (by decide)
      have e0 : (up X 1 j v) 0 0 = X 0 0 := rfl
      refine x_iload4 M dX2_setPrice_36 ?_
      refine x_aload0 M dX2_setPrice_38 ?_
      refine gX3 M TB kw_99 dX2_setPrice_39 ?_
      refine n_icmp_ge (tgt := 79) M (by first | omega | exact hB _ _) (by first | omega | exact hB _ _) dX2_setPrice_42 (by decide) (fun q42 => ?_) (fun q42 => absurd q42 (by omega))
      refine x_iload3 M dX2_setPrice_79 ?_
      exact x_iret M hr hlk dX2_setPrice_80 ⟨by decide, by decide⟩ (by rw [show k = X 0 0 by omega]) (by rw [show k = X 0 0 by omega])
    | succ d ih =>
      intro k hk
      obtain ⟨hs1, hs2, hs3, hs4, hs5, hs6⟩ := spl_ok hY hm j k (by omega)
      have hB : ∀ r i, (spl (up X 1 j v) j k).1 r i < 2 ^ 31 := fun r i => Nat.lt_trans (hs1 r i) (by decide)
      have e0 : (up X 1 j v) 0 0 = X 0 0 := rfl
      refine x_iload4 M dX2_setPrice_36 ?_
      refine x_aload0 M dX2_setPrice_38 ?_
      refine gX3 M TB kw_99 dX2_setPrice_39 ?_
      refine n_icmp_ge (tgt := 79) M (by first | omega | exact hB _ _) (by first | omega | exact hB _ _) dX2_setPrice_42 (by decide) (fun q42 => absurd q42 (by omega)) (fun q42 => ?_)
      refine x_aload0 M dX2_setPrice_45 ?_
      refine gX1 M TB kw_97 dX2_setPrice_46 ?_
      refine x_iload4 M dX2_setPrice_49 ?_
      refine aL M TB (by omega) dX2_setPrice_51 ?_
      refine gL0 M TB (by omega) kw_64 dX2_setPrice_52 ?_
      refine x_iload1 M dX2_setPrice_55 ?_
      refine n_icmp_ne (tgt := 73) M (by first | omega | exact hB _ _) (by first | omega | exact hB _ _) dX2_setPrice_56 (by decide) (fun q56 => ?_) (fun q56 => ?_)
      · refine n_inc4 M dX2_setPrice_73 ?_
        refine x_goto (tgt := 36) M dX2_setPrice_76 (by decide) ?_
        have h9 := ih (k + 1) (by omega)
        rw [spl_m (fun h => q56 ((hs5 k).trans h))] at h9
        exact h9
      · refine x_aload0 M dX2_setPrice_59 ?_
        refine x_aload0 M dX2_setPrice_60 ?_
        refine gX1 M TB kw_97 dX2_setPrice_61 ?_
        refine x_iload4 M dX2_setPrice_64 ?_
        refine aL M TB (by omega) dX2_setPrice_66 ?_
        refine x_callV0 M TB hAA mv_X2_giveOrder kw_238 dX2_setPrice_67 (c_giveOrder (X := (spl (up X 1 j v) j k).1) hs1 (i := k) (by omega)) rfl wl_X rfl rfl ⟨by decide, by decide⟩ ⟨by decide, by decide⟩ (Nat.le_of_ble_eq_true rfl) ?_
        refine n_inc3 M dX2_setPrice_70 ?_
        refine n_inc4 M dX2_setPrice_73 ?_
        refine x_goto (tgt := 36) M dX2_setPrice_76 (by decide) ?_
        have h9 := ih (k + 1) (by omega)
        rw [spl_p ((hs5 k).symm.trans q56)] at h9
        exact h9
  refine x_iload1 M dX2_setPrice_0 ?_
  refine x_callS0 M TB hAA mv_X2_needWare kw_148 dX2_setPrice_1 (c_needWare hj) rfl ⟨by decide, by decide⟩ ⟨by decide, by decide⟩ (Nat.le_of_ble_eq_true rfl) ?_
  refine x_iload2 M dX2_setPrice_4 ?_
  refine x_iconst (v := nI 0) M dX2_setPrice_5 (by decide +kernel) ?_
  refine x_sipush (v := nI 9999) M dX2_setPrice_6 (by decide +kernel) ?_
  refine x_callS0 M TB hAA mv_X2_needWithin kw_219 dX2_setPrice_9 (c_needWithin (Nat.zero_le _) hv (by decide)) rfl ⟨by decide, by decide⟩ ⟨by decide, by decide⟩ (Nat.le_of_ble_eq_true rfl) ?_
  refine x_aload0 M dX2_setPrice_12 ?_
  refine gX0 M TB kw_96 dX2_setPrice_13 ?_
  refine x_iload1 M dX2_setPrice_16 ?_
  refine aP M TB (by omega) dX2_setPrice_17 ?_
  refine x_iload2 M dX2_setPrice_18 ?_
  refine n_icmp_ne (tgt := 24) M (by first | omega | exact hB _ _) (by first | omega | exact hB _ _) dX2_setPrice_19 (by decide) (fun q19 => ?_) (fun q19 => absurd q19 he)
  refine x_aload0 M dX2_setPrice_24 ?_
  refine gX0 M TB kw_96 dX2_setPrice_25 ?_
  refine x_iload1 M dX2_setPrice_28 ?_
  refine x_iload2 M dX2_setPrice_29 ?_
  refine sP M TB (by omega) dX2_setPrice_30 ?_
  refine x_iconst (v := nI 0) M dX2_setPrice_31 (by decide +kernel) ?_
  refine x_istore3 M dX2_setPrice_32 ?_
  refine x_iconst (v := nI 0) M dX2_setPrice_33 (by decide +kernel) ?_
  refine x_istore4 M dX2_setPrice_34 ?_
  exact loop (X 0 0) 0 (by omega)
set_option maxRecDepth 20000 in
set_option maxHeartbeats 2000000 in
theorem t_setPrice1 {x x2 : Int32} (h : bad 12 x) (hst0 : l.stackTraces = false) : x_Thr l D kc A yX2_setPrice cX2_setPrice 5 (some FieldType.int) rt_X2_setPrice [.ref (ad 0), .int x, .int x2] (wl kc ad X B th ov hw) x_IO := by
  refine x_thr_of RX2 (by decide +kernel) rfl [some (.ref (ad 0)), some (.int x), some (.int x2), none, none] (Nat.le_of_ble_eq_true rfl) rfl rfl ?_
  intro p e s m args below meth c M hr hlk hno TB hAA
  refine x_iload1 M dX2_setPrice_0 ?_
  refine x_callST M TB hAA mv_X2_needWare kw_148 dX2_setPrice_1 (t_needWare h hst0) rfl ⟨by decide, by decide⟩ ⟨by decide, by decide⟩ (Nat.le_of_ble_eq_true rfl) ?_
  exact x_Tout hno hlk (by decide) (by decide)
set_option maxRecDepth 20000 in
set_option maxHeartbeats 2000000 in
theorem t_setPrice2 {j : Nat} (hj : j < 12) {x2 : Int32} (h : ¬ (¬ x2 < nI 0 ∧ x2 ≤ nI 9999)) (hst0 : l.stackTraces = false) : x_Thr l D kc A yX2_setPrice cX2_setPrice 5 (some FieldType.int) rt_X2_setPrice [.ref (ad 0), .int (nI j), .int x2] (wl kc ad X B th ov hw) x_IA := by
  refine x_thr_of RX2 (by decide +kernel) rfl [some (.ref (ad 0)), some (.int (nI j)), some (.int x2), none, none] (Nat.le_of_ble_eq_true rfl) rfl rfl ?_
  intro p e s m args below meth c M hr hlk hno TB hAA
  refine x_iload1 M dX2_setPrice_0 ?_
  refine x_callS0 M TB hAA mv_X2_needWare kw_148 dX2_setPrice_1 (c_needWare hj) rfl ⟨by decide, by decide⟩ ⟨by decide, by decide⟩ (Nat.le_of_ble_eq_true rfl) ?_
  refine x_iload2 M dX2_setPrice_4 ?_
  refine x_iconst (v := nI 0) M dX2_setPrice_5 (by decide +kernel) ?_
  refine x_sipush (v := nI 9999) M dX2_setPrice_6 (by decide +kernel) ?_
  refine x_callST M TB hAA mv_X2_needWithin kw_219 dX2_setPrice_9 (t_needWithin h hst0) rfl ⟨by decide, by decide⟩ ⟨by decide, by decide⟩ (Nat.le_of_ble_eq_true rfl) ?_
  exact x_Tout hno hlk (by decide) (by decide)
end XM
end
section
/-! THE REFERENCE's METHODS, leaves -/
section XM
variable {l : Launch} {D : va_G} {kc : Nat → ClassId} {A : Nat → Prop} {ad : Nat → Nat} {X B : St} {th : Nat} {ov : Int64} {hw : Nat}
theorem not_bad {n : Nat} (hn : n < 2 ^ 30) {x : Int32} (h : bad (n + 1) x) : ¬ (¬ x < nI 0 ∧ ¬ nI n < x) := fun q => by
  have h0 : ¬ x < 0 := by rw [← nI_0]; exact q.1
  obtain ⟨j, h1, h2⟩ := nI_of2 (M := nI n) (nI_toInt (by omega)) h0 (Int32.not_lt.mp q.2)
  exact h ⟨h0, by rw [h2]; exact nI_lt (by omega) (by omega)⟩
theorem not_bad2 {n : Nat} (hn : n < 2 ^ 30) {x : Int32} (h : bad n x) : ¬ (¬ x < nI 0 ∧ ¬ nI n - nI 1 < x) := fun q => by
  cases n with
  | zero =>
    have h0 : ¬ x < 0 := by rw [← nI_0]; exact q.1
    have h2 : (nI 0 - nI 1) = -1 := by decide
    rw [h2] at q
    obtain ⟨j, h3, h4⟩ := nI_of h0
    refine q.2 ?_
    rw [h4, Int32.lt_iff_toInt_lt, nI_toInt h3, show ((-1 : Int32)).toInt = -1 by decide]
    omega
  | succ n =>
    rw [pk_sub (by omega), Nat.add_sub_cancel] at q
    exact not_bad (by omega) h q
theorem is_in {j n : Nat} (hj : j ≤ n) (hn : n < 2 ^ 31) : ¬ nI j < nI 0 ∧ ¬ nI n < nI j := ⟨nI_nlt (by omega) (by omega), nI_nlt hj hn⟩
theorem mv_X3_thrown : x_MV yX3_thrown cX3_thrown 1 (some FieldType.int) 0 := ⟨kw_464, kw_21, ⟨by decide +kernel, by decide +kernel⟩, by decide +kernel, kw_462, kw_463⟩
abbrev rm_X3_thrown : Room := { frames := 0, cells := 0, slots := 0, locals := 0 }
set_option maxRecDepth 20000 in
set_option maxHeartbeats 2000000 in
theorem m_thrown  : x_Ret l D kc A yX3_thrown cX3_thrown 1 (some FieldType.int) rm_X3_thrown [.ref (ad 6)] (wl kc ad X (B) (th) ov (hw)) (some (.int (nI th))) (wl kc ad X (B) (th) ov (hw)) := by
  refine x_ret_of RX3 (by decide +kernel) rfl [some (.ref (ad 6))] (Nat.le_of_ble_eq_true rfl) rfl rfl ?_
  intro p e s m args below meth c M hr hlk hnm TB hAA
  refine x_aload0 M dX3_thrown_0 ?_
  refine gM0 M TB kw_415 dX3_thrown_1 ?_
  exact x_iret M hr hlk dX3_thrown_4 ⟨by decide, by decide⟩ rfl rfl
theorem mv_X3_holds : x_MV yX3_holds cX3_holds 2 (some FieldType.boolean) 1 := ⟨kw_478, kw_21, ⟨by decide +kernel, by decide +kernel⟩, by decide +kernel, kw_477, kw_8⟩
abbrev rm_X3_holds : Room := { frames := 0, cells := 0, slots := 0, locals := 0 }
set_option maxRecDepth 20000 in
set_option maxHeartbeats 2000000 in
theorem m_holds0  : x_Ret l D kc A yX3_holds cX3_holds 2 (some FieldType.boolean) rm_X3_holds [.ref (ad 6), .int (nI 0)] (wl kc ad X (B) (th) ov (hw)) (some (.int (nI 1))) (wl kc ad X (B) (0) ov (hw)) := by
  refine x_ret_of RX3 (by decide +kernel) rfl [some (.ref (ad 6)), some (.int (nI 0))] (Nat.le_of_ble_eq_true rfl) rfl rfl ?_
  intro p e s m args below meth c M hr hlk hnm TB hAA
  refine x_aload0 M dX3_holds_0 ?_
  refine x_iload1 M dX3_holds_1 ?_
  refine pM0 M TB kw_415 dX3_holds_2 ?_
  refine x_iload1 M dX3_holds_5 ?_
  refine n_if_ne (tgt := 13) M (by first | omega | exact hB _ _) dX3_holds_6 (by decide) (fun q6 => absurd rfl q6) (fun q6 => ?_)
  refine x_iconst (v := nI 1) M dX3_holds_9 (by decide +kernel) ?_
  refine x_goto (tgt := 14) M dX3_holds_10 (by decide) ?_
  exact x_zret M hr hlk dX3_holds_14 ⟨by decide, by decide⟩ (Or.inr rfl) rfl rfl
set_option maxRecDepth 20000 in
set_option maxHeartbeats 2000000 in
theorem m_holds1 {t : Nat} (h0 : 0 < t) (h2 : t ≤ 2) : x_Ret l D kc A yX3_holds cX3_holds 2 (some FieldType.boolean) rm_X3_holds [.ref (ad 6), .int (nI t)] (wl kc ad X (B) (th) ov (hw)) (some (.int (nI 0))) (wl kc ad X (B) (t) ov (hw)) := by
  refine x_ret_of RX3 (by decide +kernel) rfl [some (.ref (ad 6)), some (.int (nI t))] (Nat.le_of_ble_eq_true rfl) rfl rfl ?_
  intro p e s m args below meth c M hr hlk hnm TB hAA
  refine x_aload0 M dX3_holds_0 ?_
  refine x_iload1 M dX3_holds_1 ?_
  refine pM0 M TB kw_415 dX3_holds_2 ?_
  refine x_iload1 M dX3_holds_5 ?_
  refine n_if_ne (tgt := 13) M (by first | omega | exact hB _ _) dX3_holds_6 (by decide) (fun q6 => ?_) (fun q6 => absurd h0 (by omega))
  refine x_iconst (v := nI 0) M dX3_holds_13 (by decide +kernel) ?_
  exact x_zret M hr hlk dX3_holds_14 ⟨by decide, by decide⟩ (Or.inl rfl) rfl rfl
theorem mv_X3_isIn : x_MS yX3_isIn cX3_isIn 3 (some FieldType.boolean) 3 := ⟨kw_474, kw_21, ⟨by decide +kernel, by decide +kernel⟩, by decide +kernel, kw_473⟩
abbrev rm_X3_isIn : Room := { frames := 0, cells := 0, slots := 0, locals := 0 }
set_option maxRecDepth 20000 in
set_option maxHeartbeats 2000000 in
theorem m_isIn {v lo hi : Int32} : x_Ret l D kc A yX3_isIn cX3_isIn 3 (some FieldType.boolean) rm_X3_isIn [.int v, .int lo, .int hi] (wl kc ad X (B) (th) ov (hw)) (some (.int (if ¬ v < lo ∧ ¬ hi < v then 1 else 0 : Int32))) (wl kc ad X (B) (th) ov (hw)) := by
  refine x_ret_of RX3 (by decide +kernel) rfl [some (.int v), some (.int lo), some (.int hi)] (Nat.le_of_ble_eq_true rfl) rfl rfl ?_
  intro p e s m args below meth c M hr hlk hnm TB hAA
  refine x_iload0 M dX3_isIn_0 ?_
  refine x_iload1 M dX3_isIn_1 ?_
  refine x_icmp_lt (tgt := 14) M dX3_isIn_2 (by decide) (fun q2 => ?_) (fun q2 => ?_)
  · refine x_iconst (v := nI 0) M dX3_isIn_14 (by decide +kernel) ?_
    exact x_zret M hr hlk dX3_isIn_15 ⟨by decide, by decide⟩ (Or.inl rfl) (by rw [if_neg (fun h => h.1 q2)]; rfl) rfl
  · refine x_iload0 M dX3_isIn_5 ?_
    refine x_iload2 M dX3_isIn_6 ?_
    refine x_icmp_gt (tgt := 14) M dX3_isIn_7 (by decide) (fun q7 => ?_) (fun q7 => ?_)
    · refine x_iconst (v := nI 0) M dX3_isIn_14 (by decide +kernel) ?_
      exact x_zret M hr hlk dX3_isIn_15 ⟨by decide, by decide⟩ (Or.inl rfl) (by rw [if_neg (fun h => h.2 q7)]; rfl) rfl
    · refine x_iconst (v := nI 1) M dX3_isIn_10 (by decide +kernel) ?_
      refine x_goto (tgt := 15) M dX3_isIn_11 (by decide) ?_
      exact x_zret M hr hlk dX3_isIn_15 ⟨by decide, by decide⟩ (Or.inr rfl) (by rw [if_pos ⟨q2, q7⟩]; rfl) rfl
theorem mv_X3_isWare : x_MS yX3_isWare cX3_isWare 1 (some FieldType.boolean) 1 := ⟨kw_471, kw_21, ⟨by decide +kernel, by decide +kernel⟩, by decide +kernel, kw_470⟩
abbrev rm_X3_isWare : Room := { frames := 1, cells := 0, slots := 0, locals := 22 }
set_option maxRecDepth 20000 in
set_option maxHeartbeats 2000000 in
theorem m_isWare1 {j : Nat} (hj : j < 12) : x_Ret l D kc A yX3_isWare cX3_isWare 1 (some FieldType.boolean) rm_X3_isWare [.int (nI j)] (wl kc ad X (B) (th) ov (hw)) (some (.int (nI 1))) (wl kc ad X (B) (th) ov (hw)) := by
  refine x_ret_of RX3 (by decide +kernel) rfl [some (.int (nI j))] (Nat.le_of_ble_eq_true rfl) rfl rfl ?_
  intro p e s m args below meth c M hr hlk hnm TB hAA
  refine x_iload0 M dX3_isWare_0 ?_
  refine x_iconst (v := nI 0) M dX3_isWare_1 (by decide +kernel) ?_
  refine x_bipush (v := nI 11) M dX3_isWare_2 (by decide +kernel) ?_
  refine x_callS0 M TB hAA mv_X3_isIn kw_472 dX3_isWare_4 m_isIn rfl ⟨by decide, by decide⟩ ⟨by decide, by decide⟩ (Nat.le_of_ble_eq_true rfl) ?_
  exact x_zret M hr hlk dX3_isWare_7 ⟨by decide, by decide⟩ (Or.inr (if_pos (is_in (by omega) (by decide)))) (by rw [if_pos (is_in (by omega) (by decide))]; rfl) rfl
set_option maxRecDepth 20000 in
set_option maxHeartbeats 2000000 in
theorem m_isWare0 {x : Int32} (h : bad 12 x) : x_Ret l D kc A yX3_isWare cX3_isWare 1 (some FieldType.boolean) rm_X3_isWare [.int x] (wl kc ad X (B) (th) ov (hw)) (some (.int (nI 0))) (wl kc ad X (B) (th) ov (hw)) := by
  refine x_ret_of RX3 (by decide +kernel) rfl [some (.int x)] (Nat.le_of_ble_eq_true rfl) rfl rfl ?_
  intro p e s m args below meth c M hr hlk hnm TB hAA
  refine x_iload0 M dX3_isWare_0 ?_
  refine x_iconst (v := nI 0) M dX3_isWare_1 (by decide +kernel) ?_
  refine x_bipush (v := nI 11) M dX3_isWare_2 (by decide +kernel) ?_
  refine x_callS0 M TB hAA mv_X3_isIn kw_472 dX3_isWare_4 m_isIn rfl ⟨by decide, by decide⟩ ⟨by decide, by decide⟩ (Nat.le_of_ble_eq_true rfl) ?_
  exact x_zret M hr hlk dX3_isWare_7 ⟨by decide, by decide⟩ (Or.inl (if_neg (not_bad (n := 11) (by decide) h))) (by rw [if_neg (not_bad (n := 11) (by decide) h)]; rfl) rfl
theorem mv_X3_isLabel : x_MV yX3_isLabel cX3_isLabel 2 (some FieldType.boolean) 1 := ⟨kw_498, kw_21, ⟨by decide +kernel, by decide +kernel⟩, by decide +kernel, kw_497, kw_10⟩
abbrev rm_X3_isLabel : Room := { frames := 1, cells := 0, slots := 0, locals := 22 }
set_option maxRecDepth 20000 in
set_option maxHeartbeats 2000000 in
theorem m_isLabel1 (hO : Ok B) {j : Nat} (hj : j < B 0 0) : x_Ret l D kc A yX3_isLabel cX3_isLabel 2 (some FieldType.boolean) rm_X3_isLabel [.ref (ad 6), .int (nI j)] (wl kc ad X (B) (th) ov (hw)) (some (.int (nI 1))) (wl kc ad X (B) (th) ov (hw)) := by
  refine x_ret_of RX3 (by decide +kernel) rfl [some (.ref (ad 6)), some (.int (nI j))] (Nat.le_of_ble_eq_true rfl) rfl rfl ?_
  intro p e s m args below meth c M hr hlk hnm TB hAA
  have hB : ∀ r i, B r i < 2 ^ 31 := fun r i => Nat.lt_trans (hO.bd r i) (by decide)
  have hn := hO.n
  refine x_iload1 M dX3_isLabel_0 ?_
  refine x_iconst (v := nI 0) M dX3_isLabel_1 (by decide +kernel) ?_
  refine x_aload0 M dX3_isLabel_2 ?_
  refine gM4 M TB kw_419 dX3_isLabel_3 ?_
  refine x_iconst (v := nI 1) M dX3_isLabel_6 (by decide +kernel) ?_
  refine n_sub M (by omega) dX3_isLabel_7 ?_
  refine x_callS0 M TB hAA mv_X3_isIn kw_472 dX3_isLabel_8 m_isIn rfl ⟨by decide, by decide⟩ ⟨by decide, by decide⟩ (Nat.le_of_ble_eq_true rfl) ?_
  exact x_zret M hr hlk dX3_isLabel_11 ⟨by decide, by decide⟩ (Or.inr (if_pos (is_in (by omega) (by omega)))) (by rw [if_pos (is_in (by omega) (by omega))]; rfl) rfl
set_option maxRecDepth 20000 in
set_option maxHeartbeats 2000000 in
theorem m_isLabel0 (hO : Ok B) {x : Int32} (h : bad (B 0 0) x) : x_Ret l D kc A yX3_isLabel cX3_isLabel 2 (some FieldType.boolean) rm_X3_isLabel [.ref (ad 6), .int x] (wl kc ad X (B) (th) ov (hw)) (some (.int (nI 0))) (wl kc ad X (B) (th) ov (hw)) := by
  refine x_ret_of RX3 (by decide +kernel) rfl [some (.ref (ad 6)), some (.int x)] (Nat.le_of_ble_eq_true rfl) rfl rfl ?_
  intro p e s m args below meth c M hr hlk hnm TB hAA
  have hB : ∀ r i, B r i < 2 ^ 31 := fun r i => Nat.lt_trans (hO.bd r i) (by decide)
  have hn := hO.n
  refine x_iload1 M dX3_isLabel_0 ?_
  refine x_iconst (v := nI 0) M dX3_isLabel_1 (by decide +kernel) ?_
  refine x_aload0 M dX3_isLabel_2 ?_
  refine gM4 M TB kw_419 dX3_isLabel_3 ?_
  refine x_iconst (v := nI 1) M dX3_isLabel_6 (by decide +kernel) ?_
  refine x_isub (v := nI (B 0 0) - nI 1) M dX3_isLabel_7 rfl ?_
  refine x_callS0 M TB hAA mv_X3_isIn kw_472 dX3_isLabel_8 m_isIn rfl ⟨by decide, by decide⟩ ⟨by decide, by decide⟩ (Nat.le_of_ble_eq_true rfl) ?_
  exact x_zret M hr hlk dX3_isLabel_11 ⟨by decide, by decide⟩ (Or.inl (if_neg (not_bad2 (by omega) h))) (by rw [if_neg (not_bad2 (by omega) h)]; rfl) rfl
theorem mv_X3_gets : x_MV yX3_gets cX3_gets 2 none 1 := ⟨kw_482, kw_21, ⟨by decide +kernel, by decide +kernel⟩, by decide +kernel, kw_481, kw_9⟩
abbrev rm_X3_gets : Room := { frames := 0, cells := 0, slots := 0, locals := 0 }
set_option maxRecDepth 20000 in
set_option maxHeartbeats 2000000 in
theorem m_gets (hB0 : Bd B) {i : Nat} (hi : i < 12) : x_Ret l D kc A yX3_gets cX3_gets 2 none rm_X3_gets [.ref (ad 6), .int (nI i)] (wl kc ad X (B) (th) ov (hw)) (none) (wl kc ad X (gets B i) (th) ov (hw)) := by
  refine x_ret_of RX3 (by decide +kernel) rfl [some (.ref (ad 6)), some (.int (nI i))] (Nat.le_of_ble_eq_true rfl) rfl rfl ?_
  intro p e s m args below meth c M hr hlk hnm TB hAA
  have hB : ∀ r i, B r i < 2 ^ 31 := fun r i => Nat.lt_trans (hB0 r i) (by decide)
  refine x_aload0 M dX3_gets_0 ?_
  refine x_dup M dX3_gets_1 rfl ?_
  refine gM2 M TB kw_417 dX3_gets_2 ?_
  refine x_iconst (v := nI 1) M dX3_gets_5 (by decide +kernel) ?_
  refine n_add M dX3_gets_6 ?_
  refine pM2 M TB kw_417 dX3_gets_7 ?_
  refine x_aload0 M dX3_gets_10 ?_
  refine gM11 M TB kw_426 dX3_gets_11 ?_
  refine x_iload1 M dX3_gets_14 ?_
  refine x_aload0 M dX3_gets_15 ?_
  refine gM2 M TB kw_417 dX3_gets_16 ?_
  refine sM8 M TB (by omega) dX3_gets_19 ?_
  refine x_aload0 M dX3_gets_20 ?_
  refine gM12 M TB kw_427 dX3_gets_21 ?_
  refine x_iload1 M dX3_gets_24 ?_
  refine x_aload0 M dX3_gets_25 ?_
  refine gM1 M TB kw_416 dX3_gets_26 ?_
  refine sM9 M TB (by omega) dX3_gets_29 ?_
  exact x_vret M hr hlk dX3_gets_30 ⟨by decide, by decide⟩ rfl rfl
theorem mv_X3_changed : x_MS yX3_changed cX3_changed 4 (some FieldType.int) 2 := ⟨kw_533, kw_21, ⟨by decide +kernel, by decide +kernel⟩, by decide +kernel, kw_532⟩
abbrev rm_X3_changed : Room := { frames := 0, cells := 0, slots := 0, locals := 0 }
set_option maxRecDepth 20000 in
set_option maxHeartbeats 2000000 in
theorem m_changed {a b : Nat} (ha : a < 2 ^ 30) (hb : b < 2 ^ 30) : x_Ret l D kc A yX3_changed cX3_changed 4 (some FieldType.int) rm_X3_changed [.int (nI a), .int (nI b)] (wl kc ad X (B) (th) ov (hw)) (some (.int (nI (digs a b)))) (wl kc ad X (B) (th) ov (hw)) := by
  refine x_ret_of RX3 (by decide +kernel) rfl [some (.int (nI a)), some (.int (nI b)), none, none] (Nat.le_of_ble_eq_true rfl) rfl rfl ?_
  intro p e s m args below meth c M hr hlk hnm TB hAA
  have hA : a < 2 ^ 31 := by omega
  have hC : b < 2 ^ 31 := by omega
  have J4 : ∀ n0, n0 = digs a b → x_X p l e rm_X3_changed s m args below meth c D A 4 0 0 (MQ below (x_Qc D A (some (.int (nI (digs a b)))) (wl kc ad X (B) (th) ov (hw))) args s rm_X3_changed.cells rm_X3_changed.slots A) (wl kc ad X (B) (th) ov (hw)) 4 [some (.int (nI a)), some (.int (nI b)), some (.int (nI n0)), some (.int (nI 10000))] [] := by
    intro n0 hc
    refine x_iload3 M dX3_changed_4 ?_
    refine x_sipush (v := nI 10000) M dX3_changed_5 (by decide +kernel) ?_
    refine n_icmp_ge (tgt := 42) M (by first | omega | exact hB _ _) (by first | omega | exact hB _ _) dX3_changed_8 (by decide) (fun q8 => ?_) (fun q8 => absurd q8 (by omega))
    refine x_iload2 M dX3_changed_42 ?_
    exact x_iret M hr hlk dX3_changed_43 ⟨by decide, by decide⟩ (by rw [hc]) rfl
  have J3 : ∀ n0, n0 + (dg1 a b 1000) = digs a b → x_X p l e rm_X3_changed s m args below meth c D A 4 0 0 (MQ below (x_Qc D A (some (.int (nI (digs a b)))) (wl kc ad X (B) (th) ov (hw))) args s rm_X3_changed.cells rm_X3_changed.slots A) (wl kc ad X (B) (th) ov (hw)) 4 [some (.int (nI a)), some (.int (nI b)), some (.int (nI n0)), some (.int (nI 1000))] [] := by
    intro n0 hc
    refine x_iload3 M dX3_changed_4 ?_
    refine x_sipush (v := nI 10000) M dX3_changed_5 (by decide +kernel) ?_
    refine n_icmp_ge (tgt := 42) M (by first | omega | exact hB _ _) (by first | omega | exact hB _ _) dX3_changed_8 (by decide) (fun q8 => absurd q8 (by omega)) (fun q8 => ?_)
    refine x_iload2 M dX3_changed_11 ?_
    refine x_iload0 M dX3_changed_12 ?_
    refine x_iload3 M dX3_changed_13 ?_
    refine n_div M (by first | omega | exact hB _ _) (by omega) (by first | omega | exact hB _ _) dX3_changed_14 ?_
    refine x_bipush (v := nI 10) M dX3_changed_15 (by decide +kernel) ?_
    refine n_rem M (by first | omega | exact hB _ _) (by omega) (by first | omega | exact hB _ _) dX3_changed_17 ?_
    refine x_iload1 M dX3_changed_18 ?_
    refine x_iload3 M dX3_changed_19 ?_
    refine n_div M (by first | omega | exact hB _ _) (by omega) (by first | omega | exact hB _ _) dX3_changed_20 ?_
    refine x_bipush (v := nI 10) M dX3_changed_21 (by decide +kernel) ?_
    refine n_rem M (by first | omega | exact hB _ _) (by omega) (by first | omega | exact hB _ _) dX3_changed_23 ?_
    refine n_icmp_eq (tgt := 31) M (by first | omega | exact hB _ _) (by first | omega | exact hB _ _) dX3_changed_24 (by decide) (fun q24 => ?_) (fun q24 => ?_)
    · refine x_iconst (v := nI 0) M dX3_changed_31 (by decide +kernel) ?_
      refine n_add M dX3_changed_32 ?_
      refine x_istore2 M dX3_changed_33 ?_
      refine x_iload3 M dX3_changed_34 ?_
      refine x_bipush (v := nI 10) M dX3_changed_35 (by decide +kernel) ?_
      refine n_mul M dX3_changed_37 ?_
      refine x_istore3 M dX3_changed_38 ?_
      refine x_goto (tgt := 4) M dX3_changed_39 (by decide) ?_
      exact J4 n0 (by have e : dg1 a b 1000 = 0 := if_pos q24; omega)
    · refine x_iconst (v := nI 1) M dX3_changed_27 (by decide +kernel) ?_
      refine x_goto (tgt := 32) M dX3_changed_28 (by decide) ?_
      refine n_add M dX3_changed_32 ?_
      refine x_istore2 M dX3_changed_33 ?_
      refine x_iload3 M dX3_changed_34 ?_
      refine x_bipush (v := nI 10) M dX3_changed_35 (by decide +kernel) ?_
      refine n_mul M dX3_changed_37 ?_
      refine x_istore3 M dX3_changed_38 ?_
      refine x_goto (tgt := 4) M dX3_changed_39 (by decide) ?_
      exact J4 (n0 + 1) (by have e : dg1 a b 1000 = 1 := if_neg q24; omega)
  have J2 : ∀ n0, n0 + (dg1 a b 100 + dg1 a b 1000) = digs a b → x_X p l e rm_X3_changed s m args below meth c D A 4 0 0 (MQ below (x_Qc D A (some (.int (nI (digs a b)))) (wl kc ad X (B) (th) ov (hw))) args s rm_X3_changed.cells rm_X3_changed.slots A) (wl kc ad X (B) (th) ov (hw)) 4 [some (.int (nI a)), some (.int (nI b)), some (.int (nI n0)), some (.int (nI 100))] [] := by
    intro n0 hc
    refine x_iload3 M dX3_changed_4 ?_
    refine x_sipush (v := nI 10000) M dX3_changed_5 (by decide +kernel) ?_
    refine n_icmp_ge (tgt := 42) M (by first | omega | exact hB _ _) (by first | omega | exact hB _ _) dX3_changed_8 (by decide) (fun q8 => absurd q8 (by omega)) (fun q8 => ?_)
    refine x_iload2 M dX3_changed_11 ?_
    refine x_iload0 M dX3_changed_12 ?_
    refine x_iload3 M dX3_changed_13 ?_
    refine n_div M (by first | omega | exact hB _ _) (by omega) (by first | omega | exact hB _ _) dX3_changed_14 ?_
    refine x_bipush (v := nI 10) M dX3_changed_15 (by decide +kernel) ?_
    refine n_rem M (by first | omega | exact hB _ _) (by omega) (by first | omega | exact hB _ _) dX3_changed_17 ?_
    refine x_iload1 M dX3_changed_18 ?_
    refine x_iload3 M dX3_changed_19 ?_
    refine n_div M (by first | omega | exact hB _ _) (by omega) (by first | omega | exact hB _ _) dX3_changed_20 ?_
    refine x_bipush (v := nI 10) M dX3_changed_21 (by decide +kernel) ?_
    refine n_rem M (by first | omega | exact hB _ _) (by omega) (by first | omega | exact hB _ _) dX3_changed_23 ?_
    refine n_icmp_eq (tgt := 31) M (by first | omega | exact hB _ _) (by first | omega | exact hB _ _) dX3_changed_24 (by decide) (fun q24 => ?_) (fun q24 => ?_)
    · refine x_iconst (v := nI 0) M dX3_changed_31 (by decide +kernel) ?_
      refine n_add M dX3_changed_32 ?_
      refine x_istore2 M dX3_changed_33 ?_
      refine x_iload3 M dX3_changed_34 ?_
      refine x_bipush (v := nI 10) M dX3_changed_35 (by decide +kernel) ?_
      refine n_mul M dX3_changed_37 ?_
      refine x_istore3 M dX3_changed_38 ?_
      refine x_goto (tgt := 4) M dX3_changed_39 (by decide) ?_
      exact J3 n0 (by have e : dg1 a b 100 = 0 := if_pos q24; omega)
    · refine x_iconst (v := nI 1) M dX3_changed_27 (by decide +kernel) ?_
      refine x_goto (tgt := 32) M dX3_changed_28 (by decide) ?_
      refine n_add M dX3_changed_32 ?_
      refine x_istore2 M dX3_changed_33 ?_
      refine x_iload3 M dX3_changed_34 ?_
      refine x_bipush (v := nI 10) M dX3_changed_35 (by decide +kernel) ?_
      refine n_mul M dX3_changed_37 ?_
      refine x_istore3 M dX3_changed_38 ?_
      refine x_goto (tgt := 4) M dX3_changed_39 (by decide) ?_
      exact J3 (n0 + 1) (by have e : dg1 a b 100 = 1 := if_neg q24; omega)
  have J1 : ∀ n0, n0 + (dg1 a b 10 + dg1 a b 100 + dg1 a b 1000) = digs a b → x_X p l e rm_X3_changed s m args below meth c D A 4 0 0 (MQ below (x_Qc D A (some (.int (nI (digs a b)))) (wl kc ad X (B) (th) ov (hw))) args s rm_X3_changed.cells rm_X3_changed.slots A) (wl kc ad X (B) (th) ov (hw)) 4 [some (.int (nI a)), some (.int (nI b)), some (.int (nI n0)), some (.int (nI 10))] [] := by
    intro n0 hc
    refine x_iload3 M dX3_changed_4 ?_
    refine x_sipush (v := nI 10000) M dX3_changed_5 (by decide +kernel) ?_
    refine n_icmp_ge (tgt := 42) M (by first | omega | exact hB _ _) (by first | omega | exact hB _ _) dX3_changed_8 (by decide) (fun q8 => absurd q8 (by omega)) (fun q8 => ?_)
    refine x_iload2 M dX3_changed_11 ?_
    refine x_iload0 M dX3_changed_12 ?_
    refine x_iload3 M dX3_changed_13 ?_
    refine n_div M (by first | omega | exact hB _ _) (by omega) (by first | omega | exact hB _ _) dX3_changed_14 ?_
    refine x_bipush (v := nI 10) M dX3_changed_15 (by decide +kernel) ?_
    refine n_rem M (by first | omega | exact hB _ _) (by omega) (by first | omega | exact hB _ _) dX3_changed_17 ?_
    refine x_iload1 M dX3_changed_18 ?_
    refine x_iload3 M dX3_changed_19 ?_
    refine n_div M (by first | omega | exact hB _ _) (by omega) (by first | omega | exact hB _ _) dX3_changed_20 ?_
    refine x_bipush (v := nI 10) M dX3_changed_21 (by decide +kernel) ?_
    refine n_rem M (by first | omega | exact hB _ _) (by omega) (by first | omega | exact hB _ _) dX3_changed_23 ?_
    refine n_icmp_eq (tgt := 31) M (by first | omega | exact hB _ _) (by first | omega | exact hB _ _) dX3_changed_24 (by decide) (fun q24 => ?_) (fun q24 => ?_)
    · refine x_iconst (v := nI 0) M dX3_changed_31 (by decide +kernel) ?_
      refine n_add M dX3_changed_32 ?_
      refine x_istore2 M dX3_changed_33 ?_
      refine x_iload3 M dX3_changed_34 ?_
      refine x_bipush (v := nI 10) M dX3_changed_35 (by decide +kernel) ?_
      refine n_mul M dX3_changed_37 ?_
      refine x_istore3 M dX3_changed_38 ?_
      refine x_goto (tgt := 4) M dX3_changed_39 (by decide) ?_
      exact J2 n0 (by have e : dg1 a b 10 = 0 := if_pos q24; omega)
    · refine x_iconst (v := nI 1) M dX3_changed_27 (by decide +kernel) ?_
      refine x_goto (tgt := 32) M dX3_changed_28 (by decide) ?_
      refine n_add M dX3_changed_32 ?_
      refine x_istore2 M dX3_changed_33 ?_
      refine x_iload3 M dX3_changed_34 ?_
      refine x_bipush (v := nI 10) M dX3_changed_35 (by decide +kernel) ?_
      refine n_mul M dX3_changed_37 ?_
      refine x_istore3 M dX3_changed_38 ?_
      refine x_goto (tgt := 4) M dX3_changed_39 (by decide) ?_
      exact J2 (n0 + 1) (by have e : dg1 a b 10 = 1 := if_neg q24; omega)
  have J0 : ∀ n0, n0 + (dg1 a b 1 + dg1 a b 10 + dg1 a b 100 + dg1 a b 1000) = digs a b → x_X p l e rm_X3_changed s m args below meth c D A 4 0 0 (MQ below (x_Qc D A (some (.int (nI (digs a b)))) (wl kc ad X (B) (th) ov (hw))) args s rm_X3_changed.cells rm_X3_changed.slots A) (wl kc ad X (B) (th) ov (hw)) 4 [some (.int (nI a)), some (.int (nI b)), some (.int (nI n0)), some (.int (nI 1))] [] := by
    intro n0 hc
    refine x_iload3 M dX3_changed_4 ?_
    refine x_sipush (v := nI 10000) M dX3_changed_5 (by decide +kernel) ?_
    refine n_icmp_ge (tgt := 42) M (by first | omega | exact hB _ _) (by first | omega | exact hB _ _) dX3_changed_8 (by decide) (fun q8 => absurd q8 (by omega)) (fun q8 => ?_)
    refine x_iload2 M dX3_changed_11 ?_
    refine x_iload0 M dX3_changed_12 ?_
    refine x_iload3 M dX3_changed_13 ?_
    refine n_div M (by first | omega | exact hB _ _) (by omega) (by first | omega | exact hB _ _) dX3_changed_14 ?_
    refine x_bipush (v := nI 10) M dX3_changed_15 (by decide +kernel) ?_
    refine n_rem M (by first | omega | exact hB _ _) (by omega) (by first | omega | exact hB _ _) dX3_changed_17 ?_
    refine x_iload1 M dX3_changed_18 ?_
    refine x_iload3 M dX3_changed_19 ?_
    refine n_div M (by first | omega | exact hB _ _) (by omega) (by first | omega | exact hB _ _) dX3_changed_20 ?_
    refine x_bipush (v := nI 10) M dX3_changed_21 (by decide +kernel) ?_
    refine n_rem M (by first | omega | exact hB _ _) (by omega) (by first | omega | exact hB _ _) dX3_changed_23 ?_
    refine n_icmp_eq (tgt := 31) M (by first | omega | exact hB _ _) (by first | omega | exact hB _ _) dX3_changed_24 (by decide) (fun q24 => ?_) (fun q24 => ?_)
    · refine x_iconst (v := nI 0) M dX3_changed_31 (by decide +kernel) ?_
      refine n_add M dX3_changed_32 ?_
      refine x_istore2 M dX3_changed_33 ?_
      refine x_iload3 M dX3_changed_34 ?_
      refine x_bipush (v := nI 10) M dX3_changed_35 (by decide +kernel) ?_
      refine n_mul M dX3_changed_37 ?_
      refine x_istore3 M dX3_changed_38 ?_
      refine x_goto (tgt := 4) M dX3_changed_39 (by decide) ?_
      exact J1 n0 (by have e : dg1 a b 1 = 0 := if_pos q24; omega)
    · refine x_iconst (v := nI 1) M dX3_changed_27 (by decide +kernel) ?_
      refine x_goto (tgt := 32) M dX3_changed_28 (by decide) ?_
      refine n_add M dX3_changed_32 ?_
      refine x_istore2 M dX3_changed_33 ?_
      refine x_iload3 M dX3_changed_34 ?_
      refine x_bipush (v := nI 10) M dX3_changed_35 (by decide +kernel) ?_
      refine n_mul M dX3_changed_37 ?_
      refine x_istore3 M dX3_changed_38 ?_
      refine x_goto (tgt := 4) M dX3_changed_39 (by decide) ?_
      exact J1 (n0 + 1) (by have e : dg1 a b 1 = 1 := if_neg q24; omega)
  refine x_iconst (v := nI 0) M dX3_changed_0 (by decide +kernel) ?_
  refine x_istore2 M dX3_changed_1 ?_
  refine x_iconst (v := nI 1) M dX3_changed_2 (by decide +kernel) ?_
  refine x_istore3 M dX3_changed_3 ?_
  exact J0 0 (by unfold digs; omega)
theorem mv_X3_redraws : x_MV yX3_redraws cX3_redraws 5 none 1 := ⟨kw_530, kw_21, ⟨by decide +kernel, by decide +kernel⟩, by decide +kernel, kw_529, kw_14⟩
abbrev rm_X3_redraws : Room := { frames := 1, cells := 0, slots := 0, locals := 23 }
set_option maxRecDepth 20000 in
set_option maxHeartbeats 2000000 in
theorem m_redraws (hO : Ok B) {i : Nat} (hi : i < 12) (hh : i < hw) (h20 : 20 ≤ B 5 i) : x_Ret l D kc A yX3_redraws cX3_redraws 5 none rm_X3_redraws [.ref (ad 6), .int (nI i)] (wl kc ad X (B) (th) ov (hw)) (none) (wl kc ad X (redr B i) (th) ov (hw)) := by
  refine x_ret_of RX3 (by decide +kernel) rfl [some (.ref (ad 6)), some (.int (nI i)), none, none, none] (Nat.le_of_ble_eq_true rfl) rfl rfl ?_
  intro p e s m args below meth c M hr hlk hnm TB hAA
  have hB : ∀ r i, B r i < 2 ^ 31 := fun r i => Nat.lt_trans (hO.bd r i) (by decide)
  have hwi := hO.w i
  have h4 := digs_4 (B 3 i) (B 1 (B 2 i))
  have hg := hO.g i
  refine x_aload0 M dX3_redraws_0 ?_
  refine gM3 M TB kw_418 dX3_redraws_1 ?_
  refine x_aload0 M dX3_redraws_4 ?_
  refine gM5 M TB kw_420 dX3_redraws_5 ?_
  refine x_iload1 M dX3_redraws_8 ?_
  refine aM2 M TB (by omega) dX3_redraws_9 ?_
  refine aM1 M TB (by omega) dX3_redraws_10 ?_
  refine x_istore2 M dX3_redraws_11 ?_
  refine x_aload0 M dX3_redraws_12 ?_
  refine gM6 M TB kw_421 dX3_redraws_13 ?_
  refine x_iload1 M dX3_redraws_16 ?_
  refine aM3 M TB (by omega) dX3_redraws_17 ?_
  refine x_iload2 M dX3_redraws_18 ?_
  refine x_callS0 M TB hAA mv_X3_changed kw_531 dX3_redraws_19 (m_changed (hO.bd _ _) (hO.bd _ _)) rfl ⟨by decide, by decide⟩ ⟨by decide, by decide⟩ (Nat.le_of_ble_eq_true rfl) ?_
  refine x_istore3 M dX3_redraws_22 ?_
  refine x_iload3 M dX3_redraws_23 ?_
  refine n_if_le (tgt := 98) M (by first | omega | exact hB _ _) dX3_redraws_24 (by decide) (fun q24 => ?_) (fun q24 => ?_)
  · exact x_vret M hr hlk dX3_redraws_98 ⟨by decide, by decide⟩ rfl (by rw [redr, if_pos q24] <;> rfl)
  · refine x_aload0 M dX3_redraws_27 ?_
    refine gM7 M TB kw_422 dX3_redraws_28 ?_
    refine x_iload1 M dX3_redraws_31 ?_
    refine aM4 M TB (by omega) dX3_redraws_32 ?_
    refine x_iload3 M dX3_redraws_33 ?_
    refine n_add M dX3_redraws_34 ?_
    refine x_bipush (v := nI 9) M dX3_redraws_35 (by decide +kernel) ?_
    refine n_icmp_le (tgt := 44) M (by first | omega | exact hB _ _) (by first | omega | exact hB _ _) dX3_redraws_37 (by decide) (fun q37 => ?_) (fun q37 => ?_)
    · refine x_iconst (v := nI 0) M dX3_redraws_44 (by decide +kernel) ?_
      refine x_istore4 M dX3_redraws_45 ?_
      refine x_aload0 M dX3_redraws_47 ?_
      refine gM8 M TB kw_423 dX3_redraws_48 ?_
      refine x_iload1 M dX3_redraws_51 ?_
      refine x_dup2 M dX3_redraws_52 rfl rfl ?_
      refine aM5 M TB (by omega) (by omega) dX3_redraws_53 ?_
      refine x_iload4 M dX3_redraws_54 ?_
      refine n_if_eq (tgt := 64) M (by first | omega | exact hB _ _) dX3_redraws_56 (by decide) (fun q56 => ?_) (fun q56 => absurd rfl q56)
      refine x_bipush (v := nI 10) M dX3_redraws_64 (by decide +kernel) ?_
      refine n_sub (a := B 5 i) M (by omega) dX3_redraws_66 ?_
      refine sM5 M TB (by omega) (by omega) dX3_redraws_67 ?_
      refine x_aload0 M dX3_redraws_68 ?_
      refine gM7 M TB kw_422 dX3_redraws_69 ?_
      refine x_iload1 M dX3_redraws_72 ?_
      refine x_iload4 M dX3_redraws_73 ?_
      refine n_if_eq (tgt := 82) M (by first | omega | exact hB _ _) dX3_redraws_75 (by decide) (fun q75 => ?_) (fun q75 => absurd rfl q75)
      refine x_aload0 M dX3_redraws_82 ?_
      refine gM7 M TB kw_422 dX3_redraws_83 ?_
      refine x_iload1 M dX3_redraws_86 ?_
      refine aM4 M TB (by omega) dX3_redraws_87 ?_
      refine x_iload3 M dX3_redraws_88 ?_
      refine n_add M dX3_redraws_89 ?_
      refine sM4 M TB (by omega) dX3_redraws_90 ?_
      refine x_aload0 M dX3_redraws_91 ?_
      refine gM6 M TB kw_421 dX3_redraws_92 ?_
      refine x_iload1 M dX3_redraws_95 ?_
      refine x_iload2 M dX3_redraws_96 ?_
      refine sM3 M TB (by omega) dX3_redraws_97 ?_
      exact x_vret M hr hlk dX3_redraws_98 ⟨by decide, by decide⟩ rfl (by rw [redr, if_neg (by omega), if_neg (by omega)] <;> rfl)
    · refine x_iconst (v := nI 1) M dX3_redraws_40 (by decide +kernel) ?_
      refine x_goto (tgt := 45) M dX3_redraws_41 (by decide) ?_
      refine x_istore4 M dX3_redraws_45 ?_
      refine x_aload0 M dX3_redraws_47 ?_
      refine gM8 M TB kw_423 dX3_redraws_48 ?_
      refine x_iload1 M dX3_redraws_51 ?_
      refine x_dup2 M dX3_redraws_52 rfl rfl ?_
      refine aM5 M TB (by omega) (by omega) dX3_redraws_53 ?_
      refine x_iload4 M dX3_redraws_54 ?_
      refine n_if_eq (tgt := 64) M (by first | omega | exact hB _ _) dX3_redraws_56 (by decide) (fun q56 => absurd q56 (by decide)) (fun q56 => ?_)
      refine x_bipush (v := nI 20) M dX3_redraws_59 (by decide +kernel) ?_
      refine x_goto (tgt := 66) M dX3_redraws_61 (by decide) ?_
      refine n_sub (a := B 5 i) M (by omega) dX3_redraws_66 ?_
      refine sM5 M TB (by omega) (by omega) dX3_redraws_67 ?_
      refine x_aload0 M dX3_redraws_68 ?_
      refine gM7 M TB kw_422 dX3_redraws_69 ?_
      refine x_iload1 M dX3_redraws_72 ?_
      refine x_iload4 M dX3_redraws_73 ?_
      refine n_if_eq (tgt := 82) M (by first | omega | exact hB _ _) dX3_redraws_75 (by decide) (fun q75 => absurd q75 (by decide)) (fun q75 => ?_)
      refine x_iconst (v := nI 0) M dX3_redraws_78 (by decide +kernel) ?_
      refine x_goto (tgt := 90) M dX3_redraws_79 (by decide) ?_
      refine sM4 M TB (by omega) dX3_redraws_90 ?_
      refine x_aload0 M dX3_redraws_91 ?_
      refine gM6 M TB kw_421 dX3_redraws_92 ?_
      refine x_iload1 M dX3_redraws_95 ?_
      refine x_iload2 M dX3_redraws_96 ?_
      refine sM3 M TB (by omega) dX3_redraws_97 ?_
      exact x_vret M hr hlk dX3_redraws_98 ⟨by decide, by decide⟩ rfl (by rw [redr, if_neg (by omega), if_pos q37] <;> rfl)
theorem mv_X3_sends : x_MV yX3_sends cX3_sends 2 none 1 := ⟨kw_526, kw_21, ⟨by decide +kernel, by decide +kernel⟩, by decide +kernel, kw_525, kw_13⟩
abbrev rm_X3_sends : Room := { frames := 2, cells := 0, slots := 0, locals := 47 }
set_option maxRecDepth 20000 in
set_option maxHeartbeats 2000000 in
theorem m_sends (hO : Ok B) {i : Nat} (hi : i < 12) (hh : i < hw) : x_Ret l D kc A yX3_sends cX3_sends 2 none rm_X3_sends [.ref (ad 6), .int (nI i)] (wl kc ad X (B) (th) ov (hw)) (none) (wl kc ad X (sen B i) (th) ov (hw)) := by
  refine x_ret_of RX3 (by decide +kernel) rfl [some (.ref (ad 6)), some (.int (nI i))] (Nat.le_of_ble_eq_true rfl) rfl rfl ?_
  intro p e s m args below meth c M hr hlk hnm TB hAA
  have hB : ∀ r i, B r i < 2 ^ 31 := fun r i => Nat.lt_trans (hO.bd r i) (by decide)
  have ht := hO.t
  have hY : Ok (up B 9 i (B 0 1 + 5)) := Ok_up hO (okv_5 (by omega) (by omega))
  have hB2 : ∀ r i2, redr (up B 9 i (B 0 1 + 5)) i r i2 < 2 ^ 31 := fun r i2 => Nat.lt_trans ((Ok_redr hY i).bd r i2) (by decide)
  refine x_aload0 M dX3_sends_0 ?_
  refine gM12 M TB kw_427 dX3_sends_1 ?_
  refine x_iload1 M dX3_sends_4 ?_
  refine x_aload0 M dX3_sends_5 ?_
  refine gM1 M TB kw_416 dX3_sends_6 ?_
  refine x_iconst (v := nI 5) M dX3_sends_9 (by decide +kernel) ?_
  refine n_add M dX3_sends_10 ?_
  refine sM9 M TB (by omega) dX3_sends_11 ?_
  refine x_aload0 M dX3_sends_12 ?_
  refine gM9 M TB kw_424 dX3_sends_13 ?_
  refine x_iload1 M dX3_sends_16 ?_
  refine aM6 M TB (by omega) dX3_sends_17 ?_
  refine n_if_le (tgt := 34) M (by first | omega | exact hB _ _) dX3_sends_18 (by decide) (fun q18 => ?_) (fun q18 => ?_)
  · refine x_aload0 M dX3_sends_34 ?_
    refine gM8 M TB kw_423 dX3_sends_35 ?_
    refine x_iload1 M dX3_sends_38 ?_
    refine aM5 M TB (by omega) (by omega) dX3_sends_39 ?_
    refine x_bipush (v := nI 20) M dX3_sends_40 (by decide +kernel) ?_
    refine n_icmp_lt (tgt := 79) M (by first | omega | exact hB _ _) (by first | omega | exact hB _ _) dX3_sends_42 (by decide) (fun q42 => ?_) (fun q42 => ?_)
    · exact x_vret M hr hlk dX3_sends_79 ⟨by decide, by decide⟩ rfl (by rw [sen, sen1, if_neg (by omega), if_neg (by omega)])
    · refine x_aload0 M dX3_sends_45 ?_
      refine x_iload1 M dX3_sends_46 ?_
      refine x_callV0 M TB hAA mv_X3_redraws kw_527 dX3_sends_47 (m_redraws (B := (up B 9 i (B 0 1 + 5))) hY hi hh q42) rfl wl_M rfl rfl ⟨by decide, by decide⟩ ⟨by decide, by decide⟩ (Nat.le_of_ble_eq_true rfl) ?_
      refine x_aload0 M dX3_sends_50 ?_
      refine gM10 M TB kw_425 dX3_sends_51 ?_
      refine x_iload1 M dX3_sends_54 ?_
      refine aM7 M TB (by omega) dX3_sends_55 ?_
      refine n_if_le (tgt := 72) M (hB2 _ _) dX3_sends_56 (by decide) (fun q56 => ?_) (fun q56 => ?_)
      · refine x_aload0 M dX3_sends_72 ?_
        refine gM11 M TB kw_426 dX3_sends_73 ?_
        refine x_iload1 M dX3_sends_76 ?_
        refine x_iconst (v := nI 0) M dX3_sends_77 (by decide +kernel) ?_
        refine sM8 M TB (by omega) dX3_sends_78 ?_
        exact x_vret M hr hlk dX3_sends_79 ⟨by decide, by decide⟩ rfl (by rw [sen, sen1, if_neg (by omega), if_pos q42, answ, if_neg (by omega)])
      · refine x_aload0 M dX3_sends_59 ?_
        refine gM10 M TB kw_425 dX3_sends_60 ?_
        refine x_iload1 M dX3_sends_63 ?_
        refine x_dup2 M dX3_sends_64 rfl rfl ?_
        refine aM7 M TB (by omega) dX3_sends_65 ?_
        refine x_iconst (v := nI 1) M dX3_sends_66 (by decide +kernel) ?_
        refine n_sub M (by omega) dX3_sends_67 ?_
        refine sM7 M TB (by omega) dX3_sends_68 ?_
        refine x_goto (tgt := 79) M dX3_sends_69 (by decide) ?_
        exact x_vret M hr hlk dX3_sends_79 ⟨by decide, by decide⟩ rfl (by rw [sen, sen1, if_neg (by omega), if_pos q42, answ, if_pos q56])
  · refine x_aload0 M dX3_sends_21 ?_
    refine gM9 M TB kw_424 dX3_sends_22 ?_
    refine x_iload1 M dX3_sends_25 ?_
    refine x_dup2 M dX3_sends_26 rfl rfl ?_
    refine aM6 M TB (by omega) dX3_sends_27 ?_
    refine x_iconst (v := nI 1) M dX3_sends_28 (by decide +kernel) ?_
    refine n_sub M (by omega) dX3_sends_29 ?_
    refine sM6 M TB (by omega) dX3_sends_30 ?_
    refine x_goto (tgt := 79) M dX3_sends_31 (by decide) ?_
    exact x_vret M hr hlk dX3_sends_79 ⟨by decide, by decide⟩ rfl (by rw [sen, sen1, if_pos q18])
theorem mv_X3_leastNow : x_MV yX3_leastNow cX3_leastNow 4 (some FieldType.int) 1 := ⟨kw_537, kw_21, ⟨by decide +kernel, by decide +kernel⟩, by decide +kernel, kw_536, kw_15⟩
abbrev rm_X3_leastNow : Room := { frames := 0, cells := 0, slots := 0, locals := 0 }
set_option maxRecDepth 20000 in
set_option maxHeartbeats 2000000 in
theorem m_leastNow (hO : Ok B) {w : Nat} (hw12 : w < 12) : x_Ret l D kc A yX3_leastNow cX3_leastNow 4 (some FieldType.int) rm_X3_leastNow [.ref (ad 6), .int (nI w)] (wl kc ad X (B) (th) ov (hw)) (some (.int (em (lnow B w (B 0 0))))) (wl kc ad X (B) (th) ov (hw)) := by
  refine x_ret_of RX3 (by decide +kernel) rfl [some (.ref (ad 6)), some (.int (nI w)), none, none] (Nat.le_of_ble_eq_true rfl) rfl rfl ?_
  intro p e s m args below meth c M hr hlk hnm TB hAA
  have hB : ∀ r i, B r i < 2 ^ 31 := fun r i => Nat.lt_trans (hO.bd r i) (by decide)
  have loop : ∀ (d k : Nat), k + d = B 0 0 → x_X p l e rm_X3_leastNow s m args below meth c D A 4 0 0 (MQ below (x_Qc D A (some (.int (em (lnow B w (B 0 0))))) (wl kc ad X (B) (th) ov (hw))) args s rm_X3_leastNow.cells rm_X3_leastNow.slots A) (wl kc ad X (B) (th) ov (hw)) 4 [some (.ref (ad 6)), some (.int (nI w)), some (.int (em (lnow B w k))), some (.int (nI k))] [] := by
    intro d
    induction d with
    | zero =>
      intro k hk
      have hl := lnow_le B w k
      have hn := hO.n
      have hsk := hO.s k
      refine x_iload3 M dX3_leastNow_4 ?_
      refine x_aload0 M dX3_leastNow_5 ?_
      refine gM4 M TB kw_419 dX3_leastNow_6 ?_
      refine n_icmp_ge (tgt := 54) M (by first | omega | exact hB _ _) (by first | omega | exact hB _ _) dX3_leastNow_9 (by decide) (fun q9 => ?_) (fun q9 => absurd q9 (by omega))
      refine x_iload2 M dX3_leastNow_54 ?_
      exact x_iret M hr hlk dX3_leastNow_55 ⟨by decide, by decide⟩ (by rw [show k = B 0 0 by omega]) rfl
    | succ d ih =>
      intro k hk
      have hl := lnow_le B w k
      have hn := hO.n
      have hsk := hO.s k
      by_cases hf : lnow B w k = 10000
      · rw [show em (lnow B w k) = -1 from if_pos hf]
        refine x_iload3 M dX3_leastNow_4 ?_
        refine x_aload0 M dX3_leastNow_5 ?_
        refine gM4 M TB kw_419 dX3_leastNow_6 ?_
        refine n_icmp_ge (tgt := 54) M (by first | omega | exact hB _ _) (by first | omega | exact hB _ _) dX3_leastNow_9 (by decide) (fun q9 => absurd q9 (by omega)) (fun q9 => ?_)
        refine x_aload0 M dX3_leastNow_12 ?_
        refine gM5 M TB kw_420 dX3_leastNow_13 ?_
        refine x_iload3 M dX3_leastNow_16 ?_
        refine aM2 M TB (by omega) dX3_leastNow_17 ?_
        refine x_iload1 M dX3_leastNow_18 ?_
        refine n_icmp_ne (tgt := 46) M (by first | omega | exact hB _ _) (by first | omega | exact hB _ _) dX3_leastNow_19 (by decide) (fun q19 => ?_) (fun q19 => ?_)
        · refine x_iload2 M dX3_leastNow_46 ?_
          refine x_istore2 M dX3_leastNow_47 ?_
          refine n_inc3 M dX3_leastNow_48 ?_
          refine x_goto (tgt := 4) M dX3_leastNow_51 (by decide) ?_
          have h9 := ih (k + 1) (by omega)
          rw [lnow_n q19, show em (lnow B w k) = -1 from if_pos hf] at h9
          exact h9
        · refine x_iload2 M dX3_leastNow_22 ?_
          refine x_iconst (v := (-1)) M dX3_leastNow_23 (by decide +kernel) ?_
          refine x_icmp_eq (tgt := 37) M dX3_leastNow_24 (by decide) (fun q24 => ?_) (fun q24 => absurd rfl q24)
          refine x_aload0 M dX3_leastNow_37 ?_
          refine gM6 M TB kw_421 dX3_leastNow_38 ?_
          refine x_iload3 M dX3_leastNow_41 ?_
          refine aM3 M TB (by omega) dX3_leastNow_42 ?_
          refine x_goto (tgt := 47) M dX3_leastNow_43 (by decide) ?_
          refine x_istore2 M dX3_leastNow_47 ?_
          refine n_inc3 M dX3_leastNow_48 ?_
          refine x_goto (tgt := 4) M dX3_leastNow_51 (by decide) ?_
          have h9 := ih (k + 1) (by omega)
          rw [lnow_w q19, hf, Nat.min_eq_right (by omega), show em (B 3 k) = nI (B 3 k) from em_n (by omega)] at h9
          exact h9
      · rw [show em (lnow B w k) = nI (lnow B w k) from if_neg hf]
        refine x_iload3 M dX3_leastNow_4 ?_
        refine x_aload0 M dX3_leastNow_5 ?_
        refine gM4 M TB kw_419 dX3_leastNow_6 ?_
        refine n_icmp_ge (tgt := 54) M (by first | omega | exact hB _ _) (by first | omega | exact hB _ _) dX3_leastNow_9 (by decide) (fun q9 => absurd q9 (by omega)) (fun q9 => ?_)
        refine x_aload0 M dX3_leastNow_12 ?_
        refine gM5 M TB kw_420 dX3_leastNow_13 ?_
        refine x_iload3 M dX3_leastNow_16 ?_
        refine aM2 M TB (by omega) dX3_leastNow_17 ?_
        refine x_iload1 M dX3_leastNow_18 ?_
        refine n_icmp_ne (tgt := 46) M (by first | omega | exact hB _ _) (by first | omega | exact hB _ _) dX3_leastNow_19 (by decide) (fun q19 => ?_) (fun q19 => ?_)
        · refine x_iload2 M dX3_leastNow_46 ?_
          refine x_istore2 M dX3_leastNow_47 ?_
          refine n_inc3 M dX3_leastNow_48 ?_
          refine x_goto (tgt := 4) M dX3_leastNow_51 (by decide) ?_
          have h9 := ih (k + 1) (by omega)
          rw [lnow_n q19, show em (lnow B w k) = nI (lnow B w k) from if_neg hf] at h9
          exact h9
        · refine x_iload2 M dX3_leastNow_22 ?_
          refine x_iconst (v := (-1)) M dX3_leastNow_23 (by decide +kernel) ?_
          refine x_icmp_eq (tgt := 37) M dX3_leastNow_24 (by decide) (fun q24 => absurd q24 (nI_m1 (by omega))) (fun q24 => ?_)
          refine x_aload0 M dX3_leastNow_27 ?_
          refine gM6 M TB kw_421 dX3_leastNow_28 ?_
          refine x_iload3 M dX3_leastNow_31 ?_
          refine aM3 M TB (by omega) dX3_leastNow_32 ?_
          refine x_iload2 M dX3_leastNow_33 ?_
          refine n_icmp_ge (tgt := 46) M (by first | omega | exact hB _ _) (by first | omega | exact hB _ _) dX3_leastNow_34 (by decide) (fun q34 => ?_) (fun q34 => ?_)
          · refine x_iload2 M dX3_leastNow_46 ?_
            refine x_istore2 M dX3_leastNow_47 ?_
            refine n_inc3 M dX3_leastNow_48 ?_
            refine x_goto (tgt := 4) M dX3_leastNow_51 (by decide) ?_
            have h9 := ih (k + 1) (by omega)
            rw [lnow_w q19, Nat.min_eq_left q34, em_n hf] at h9
            exact h9
          · refine x_aload0 M dX3_leastNow_37 ?_
            refine gM6 M TB kw_421 dX3_leastNow_38 ?_
            refine x_iload3 M dX3_leastNow_41 ?_
            refine aM3 M TB (by omega) dX3_leastNow_42 ?_
            refine x_goto (tgt := 47) M dX3_leastNow_43 (by decide) ?_
            refine x_istore2 M dX3_leastNow_47 ?_
            refine n_inc3 M dX3_leastNow_48 ?_
            refine x_goto (tgt := 4) M dX3_leastNow_51 (by decide) ?_
            have h9 := ih (k + 1) (by omega)
            rw [lnow_w q19, Nat.min_eq_right (by omega), show em (B 3 k) = nI (B 3 k) from em_n (by omega)] at h9
            exact h9
  refine x_iconst (v := (-1)) M dX3_leastNow_0 (by decide +kernel) ?_
  refine x_istore2 M dX3_leastNow_1 ?_
  refine x_iconst (v := nI 0) M dX3_leastNow_2 (by decide +kernel) ?_
  refine x_istore3 M dX3_leastNow_3 ?_
  exact loop (B 0 0) 0 (by omega)
theorem mv_X3_lesser : x_MS yX3_lesser cX3_lesser 2 (some FieldType.int) 2 := ⟨kw_540, kw_21, ⟨by decide +kernel, by decide +kernel⟩, by decide +kernel, kw_539⟩
abbrev rm_X3_lesser : Room := { frames := 0, cells := 0, slots := 0, locals := 0 }

set_option maxRecDepth 20000 in
set_option maxHeartbeats 2000000 in
theorem m_lesser {a b : Nat} (ha : a ≤ 10000) (hb : b ≤ 10000) : x_Ret l D kc A yX3_lesser cX3_lesser 2 (some FieldType.int) rm_X3_lesser [.int (em a), .int (em b)] (wl kc ad X (B) (th) ov (hw)) (some (.int (em (min a b)))) (wl kc ad X (B) (th) ov (hw)) := by
  by_cases ha0 : a = 10000
  · rw [show em a = -1 from if_pos ha0]
    by_cases hb0 : b = 10000
    · rw [show em b = -1 from if_pos hb0]
      refine x_ret_of RX3 (by decide +kernel) rfl [some (.int (-1)), some (.int (-1))] (Nat.le_of_ble_eq_true rfl) rfl rfl ?_
      intro p e s m args below meth c M hr hlk hnm TB hAA
      refine x_iload0 M dX3_lesser_0 ?_
      refine x_iconst (v := (-1)) M dX3_lesser_1 (by decide +kernel) ?_
      refine x_icmp_eq (tgt := 15) M dX3_lesser_2 (by decide) (fun q2 => ?_) (fun q2 => absurd rfl q2)
      refine x_iload1 M dX3_lesser_15 ?_
      refine x_goto (tgt := 20) M dX3_lesser_16 (by decide) ?_
      exact x_iret M hr hlk dX3_lesser_20 ⟨by decide, by decide⟩ (by rw [ha0, hb0]; rfl) rfl
    · rw [show em b = nI b from if_neg hb0]
      refine x_ret_of RX3 (by decide +kernel) rfl [some (.int (-1)), some (.int (nI b))] (Nat.le_of_ble_eq_true rfl) rfl rfl ?_
      intro p e s m args below meth c M hr hlk hnm TB hAA
      refine x_iload0 M dX3_lesser_0 ?_
      refine x_iconst (v := (-1)) M dX3_lesser_1 (by decide +kernel) ?_
      refine x_icmp_eq (tgt := 15) M dX3_lesser_2 (by decide) (fun q2 => ?_) (fun q2 => absurd rfl q2)
      refine x_iload1 M dX3_lesser_15 ?_
      refine x_goto (tgt := 20) M dX3_lesser_16 (by decide) ?_
      exact x_iret M hr hlk dX3_lesser_20 ⟨by decide, by decide⟩ (by rw [ha0, Nat.min_eq_right (by omega), em_n hb0]) rfl
  · rw [show em a = nI a from if_neg ha0]
    by_cases hb0 : b = 10000
    · rw [show em b = -1 from if_pos hb0]
      refine x_ret_of RX3 (by decide +kernel) rfl [some (.int (nI a)), some (.int (-1))] (Nat.le_of_ble_eq_true rfl) rfl rfl ?_
      intro p e s m args below meth c M hr hlk hnm TB hAA
      refine x_iload0 M dX3_lesser_0 ?_
      refine x_iconst (v := (-1)) M dX3_lesser_1 (by decide +kernel) ?_
      refine x_icmp_eq (tgt := 15) M dX3_lesser_2 (by decide) (fun q2 => absurd q2 (nI_m1 (by omega))) (fun q2 => ?_)
      refine x_iload1 M dX3_lesser_5 ?_
      refine x_iconst (v := (-1)) M dX3_lesser_6 (by decide +kernel) ?_
      refine x_icmp_eq (tgt := 19) M dX3_lesser_7 (by decide) (fun q7 => ?_) (fun q7 => absurd rfl q7)
      refine x_iload0 M dX3_lesser_19 ?_
      exact x_iret M hr hlk dX3_lesser_20 ⟨by decide, by decide⟩ (by rw [hb0, Nat.min_eq_left (by omega), em_n ha0]) rfl
    · rw [show em b = nI b from if_neg hb0]
      refine x_ret_of RX3 (by decide +kernel) rfl [some (.int (nI a)), some (.int (nI b))] (Nat.le_of_ble_eq_true rfl) rfl rfl ?_
      intro p e s m args below meth c M hr hlk hnm TB hAA
      refine x_iload0 M dX3_lesser_0 ?_
      refine x_iconst (v := (-1)) M dX3_lesser_1 (by decide +kernel) ?_
      refine x_icmp_eq (tgt := 15) M dX3_lesser_2 (by decide) (fun q2 => absurd q2 (nI_m1 (by omega))) (fun q2 => ?_)
      refine x_iload1 M dX3_lesser_5 ?_
      refine x_iconst (v := (-1)) M dX3_lesser_6 (by decide +kernel) ?_
      refine x_icmp_eq (tgt := 19) M dX3_lesser_7 (by decide) (fun q7 => absurd q7 (nI_m1 (by omega))) (fun q7 => ?_)
      refine x_iload1 M dX3_lesser_10 ?_
      refine x_iload0 M dX3_lesser_11 ?_
      refine n_icmp_ge (tgt := 19) M (by first | omega | exact hB _ _) (by first | omega | exact hB _ _) dX3_lesser_12 (by decide) (fun q12 => ?_) (fun q12 => ?_)
      · refine x_iload0 M dX3_lesser_19 ?_
        exact x_iret M hr hlk dX3_lesser_20 ⟨by decide, by decide⟩ (by rw [Nat.min_eq_left q12, em_n ha0]) rfl
      · refine x_iload1 M dX3_lesser_15 ?_
        refine x_goto (tgt := 20) M dX3_lesser_16 (by decide) ?_
        exact x_iret M hr hlk dX3_lesser_20 ⟨by decide, by decide⟩ (by rw [Nat.min_eq_right (by omega), em_n hb0]) rfl
theorem m_lesserN {a b : Nat} (ha : a < 10000) (hb : b ≤ 10000) : x_Ret l D kc A yX3_lesser cX3_lesser 2 (some FieldType.int) rm_X3_lesser [.int (nI a), .int (em b)] (wl kc ad X (B) (th) ov (hw)) (some (.int (em (min a b)))) (wl kc ad X (B) (th) ov (hw)) := by
  have h := m_lesser (l := l) (D := D) (kc := kc) (A := A) (ad := ad) (X := X) (B := B) (th := th) (ov := ov) (hw := hw) (a := a) (b := b) (by omega) hb
  rw [show em a = nI a from if_neg (by omega)] at h
  exact h
theorem mv_X3_longest : x_MV yX3_longest cX3_longest 5 (some FieldType.int) 0 := ⟨kw_522, kw_21, ⟨by decide +kernel, by decide +kernel⟩, by decide +kernel, kw_521, kw_12⟩
abbrev rm_X3_longest : Room := { frames := 0, cells := 0, slots := 0, locals := 0 }
set_option maxRecDepth 20000 in
set_option maxHeartbeats 2000000 in
theorem m_longest (hO : Ok B) : x_Ret l D kc A yX3_longest cX3_longest 5 (some FieldType.int) rm_X3_longest [.ref (ad 6)] (wl kc ad X (B) (th) ov (hw)) (some (.int (oI (nxt B (B 0 0))))) (wl kc ad X (B) (th) ov (hw)) := by
  refine x_ret_of RX3 (by decide +kernel) rfl [some (.ref (ad 6)), none, none, none, none] (Nat.le_of_ble_eq_true rfl) rfl rfl ?_
  intro p e s m args below meth c M hr hlk hnm TB hAA
  have hB : ∀ r i, B r i < 2 ^ 31 := fun r i => Nat.lt_trans (hO.bd r i) (by decide)
  have loop : ∀ (d k : Nat), k + d = B 0 0 → ∀ b3 b4 : Option Value, x_X p l e rm_X3_longest s m args below meth c D A 5 0 0 (MQ below (x_Qc D A (some (.int (oI (nxt B (B 0 0))))) (wl kc ad X (B) (th) ov (hw))) args s rm_X3_longest.cells rm_X3_longest.slots A) (wl kc ad X (B) (th) ov (hw)) 4 [some (.ref (ad 6)), some (.int (oI (nxt B k))), some (.int (nI k)), b3, b4] [] := by
    intro d
    induction d with
    | zero =>
      intro k hk b3 b4
      have hn := hO.n
      refine x_iload2 M dX3_longest_4 ?_
      refine x_aload0 M dX3_longest_5 ?_
      refine gM4 M TB kw_419 dX3_longest_6 ?_
      refine n_icmp_ge (tgt := 118) M (by first | omega | exact hB _ _) (by first | omega | exact hB _ _) dX3_longest_9 (by decide) (fun q9 => ?_) (fun q9 => absurd q9 (by omega))
      refine x_iload1 M dX3_longest_118 ?_
      exact x_iret M hr hlk dX3_longest_119 ⟨by decide, by decide⟩ (by rw [show k = B 0 0 by omega]) rfl
    | succ d ih =>
      intro k hk b3 b4
      have hn := hO.n
      cases hfo : nxt B k with
      | none =>
        refine x_iload2 M dX3_longest_4 ?_
        refine x_aload0 M dX3_longest_5 ?_
        refine gM4 M TB kw_419 dX3_longest_6 ?_
        refine n_icmp_ge (tgt := 118) M (by first | omega | exact hB _ _) (by first | omega | exact hB _ _) dX3_longest_9 (by decide) (fun q9 => absurd q9 (by omega)) (fun q9 => ?_)
        refine x_aload0 M dX3_longest_12 ?_
        refine gM11 M TB kw_426 dX3_longest_13 ?_
        refine x_iload2 M dX3_longest_16 ?_
        refine aM8 M TB (by omega) dX3_longest_17 ?_
        refine n_if_le (tgt := 38) M (by first | omega | exact hB _ _) dX3_longest_18 (by decide) (fun q18 => ?_) (fun q18 => ?_)
        · refine x_iconst (v := nI 0) M dX3_longest_38 (by decide +kernel) ?_
          refine x_istore3 M dX3_longest_39 ?_
          refine x_iload3 M dX3_longest_40 ?_
          refine n_if_eq (tgt := 98) M (by first | omega | exact hB _ _) dX3_longest_41 (by decide) (fun q41 => ?_) (fun q41 => absurd rfl q41)
          refine x_iconst (v := nI 0) M dX3_longest_98 (by decide +kernel) ?_
          refine x_istore4 M dX3_longest_99 ?_
          refine x_iload4 M dX3_longest_101 ?_
          refine n_if_eq (tgt := 110) M (by first | omega | exact hB _ _) dX3_longest_103 (by decide) (fun q103 => ?_) (fun q103 => absurd rfl q103)
          refine x_iload1 M dX3_longest_110 ?_
          refine x_istore1 M dX3_longest_111 ?_
          refine n_inc2 M dX3_longest_112 ?_
          refine x_goto (tgt := 4) M dX3_longest_115 (by decide) ?_
          have h9 := ih (k + 1) (by omega)
          rw [nxt_n hfo, if_neg (fun h => h.1 q18)] at h9
          exact h9 _ _
        · refine x_aload0 M dX3_longest_21 ?_
          refine gM12 M TB kw_427 dX3_longest_22 ?_
          refine x_iload2 M dX3_longest_25 ?_
          refine aM9 M TB (by omega) dX3_longest_26 ?_
          refine x_aload0 M dX3_longest_27 ?_
          refine gM1 M TB kw_416 dX3_longest_28 ?_
          refine n_icmp_gt (tgt := 38) M (by first | omega | exact hB _ _) (by first | omega | exact hB _ _) dX3_longest_31 (by decide) (fun q31 => ?_) (fun q31 => ?_)
          · refine x_iconst (v := nI 0) M dX3_longest_38 (by decide +kernel) ?_
            refine x_istore3 M dX3_longest_39 ?_
            refine x_iload3 M dX3_longest_40 ?_
            refine n_if_eq (tgt := 98) M (by first | omega | exact hB _ _) dX3_longest_41 (by decide) (fun q41 => ?_) (fun q41 => absurd rfl q41)
            refine x_iconst (v := nI 0) M dX3_longest_98 (by decide +kernel) ?_
            refine x_istore4 M dX3_longest_99 ?_
            refine x_iload4 M dX3_longest_101 ?_
            refine n_if_eq (tgt := 110) M (by first | omega | exact hB _ _) dX3_longest_103 (by decide) (fun q103 => ?_) (fun q103 => absurd rfl q103)
            refine x_iload1 M dX3_longest_110 ?_
            refine x_istore1 M dX3_longest_111 ?_
            refine n_inc2 M dX3_longest_112 ?_
            refine x_goto (tgt := 4) M dX3_longest_115 (by decide) ?_
            have h9 := ih (k + 1) (by omega)
            rw [nxt_n hfo, if_neg (fun h => absurd h.2 (by omega))] at h9
            exact h9 _ _
          · refine x_iconst (v := nI 1) M dX3_longest_34 (by decide +kernel) ?_
            refine x_goto (tgt := 39) M dX3_longest_35 (by decide) ?_
            refine x_istore3 M dX3_longest_39 ?_
            refine x_iload3 M dX3_longest_40 ?_
            refine n_if_eq (tgt := 98) M (by first | omega | exact hB _ _) dX3_longest_41 (by decide) (fun q41 => absurd q41 (by decide)) (fun q41 => ?_)
            refine x_iload1 M dX3_longest_44 ?_
            refine x_iconst (v := (-1)) M dX3_longest_45 (by decide +kernel) ?_
            refine x_icmp_eq (tgt := 94) M dX3_longest_46 (by decide) (fun q46 => ?_) (fun q46 => absurd rfl q46)
            refine x_iconst (v := nI 1) M dX3_longest_94 (by decide +kernel) ?_
            refine x_goto (tgt := 99) M dX3_longest_95 (by decide) ?_
            refine x_istore4 M dX3_longest_99 ?_
            refine x_iload4 M dX3_longest_101 ?_
            refine n_if_eq (tgt := 110) M (by first | omega | exact hB _ _) dX3_longest_103 (by decide) (fun q103 => absurd q103 (by decide)) (fun q103 => ?_)
            refine x_iload2 M dX3_longest_106 ?_
            refine x_goto (tgt := 111) M dX3_longest_107 (by decide) ?_
            refine x_istore1 M dX3_longest_111 ?_
            refine n_inc2 M dX3_longest_112 ?_
            refine x_goto (tgt := 4) M dX3_longest_115 (by decide) ?_
            have h9 := ih (k + 1) (by omega)
            rw [nxt_n hfo, if_pos ⟨by omega, q31⟩] at h9
            exact h9 _ _
      | some j =>
        have hj := nxt_of hfo
        refine x_iload2 M dX3_longest_4 ?_
        refine x_aload0 M dX3_longest_5 ?_
        refine gM4 M TB kw_419 dX3_longest_6 ?_
        refine n_icmp_ge (tgt := 118) M (by first | omega | exact hB _ _) (by first | omega | exact hB _ _) dX3_longest_9 (by decide) (fun q9 => absurd q9 (by omega)) (fun q9 => ?_)
        refine x_aload0 M dX3_longest_12 ?_
        refine gM11 M TB kw_426 dX3_longest_13 ?_
        refine x_iload2 M dX3_longest_16 ?_
        refine aM8 M TB (by omega) dX3_longest_17 ?_
        refine n_if_le (tgt := 38) M (by first | omega | exact hB _ _) dX3_longest_18 (by decide) (fun q18 => ?_) (fun q18 => ?_)
        · refine x_iconst (v := nI 0) M dX3_longest_38 (by decide +kernel) ?_
          refine x_istore3 M dX3_longest_39 ?_
          refine x_iload3 M dX3_longest_40 ?_
          refine n_if_eq (tgt := 98) M (by first | omega | exact hB _ _) dX3_longest_41 (by decide) (fun q41 => ?_) (fun q41 => absurd rfl q41)
          refine x_iconst (v := nI 0) M dX3_longest_98 (by decide +kernel) ?_
          refine x_istore4 M dX3_longest_99 ?_
          refine x_iload4 M dX3_longest_101 ?_
          refine n_if_eq (tgt := 110) M (by first | omega | exact hB _ _) dX3_longest_103 (by decide) (fun q103 => ?_) (fun q103 => absurd rfl q103)
          refine x_iload1 M dX3_longest_110 ?_
          refine x_istore1 M dX3_longest_111 ?_
          refine n_inc2 M dX3_longest_112 ?_
          refine x_goto (tgt := 4) M dX3_longest_115 (by decide) ?_
          have h9 := ih (k + 1) (by omega)
          rw [nxt_s hfo, if_neg (fun h : due B k ∧ bef B k j => (fun h => h.1 q18) h.1)] at h9
          exact h9 _ _
        · refine x_aload0 M dX3_longest_21 ?_
          refine gM12 M TB kw_427 dX3_longest_22 ?_
          refine x_iload2 M dX3_longest_25 ?_
          refine aM9 M TB (by omega) dX3_longest_26 ?_
          refine x_aload0 M dX3_longest_27 ?_
          refine gM1 M TB kw_416 dX3_longest_28 ?_
          refine n_icmp_gt (tgt := 38) M (by first | omega | exact hB _ _) (by first | omega | exact hB _ _) dX3_longest_31 (by decide) (fun q31 => ?_) (fun q31 => ?_)
          · refine x_iconst (v := nI 0) M dX3_longest_38 (by decide +kernel) ?_
            refine x_istore3 M dX3_longest_39 ?_
            refine x_iload3 M dX3_longest_40 ?_
            refine n_if_eq (tgt := 98) M (by first | omega | exact hB _ _) dX3_longest_41 (by decide) (fun q41 => ?_) (fun q41 => absurd rfl q41)
            refine x_iconst (v := nI 0) M dX3_longest_98 (by decide +kernel) ?_
            refine x_istore4 M dX3_longest_99 ?_
            refine x_iload4 M dX3_longest_101 ?_
            refine n_if_eq (tgt := 110) M (by first | omega | exact hB _ _) dX3_longest_103 (by decide) (fun q103 => ?_) (fun q103 => absurd rfl q103)
            refine x_iload1 M dX3_longest_110 ?_
            refine x_istore1 M dX3_longest_111 ?_
            refine n_inc2 M dX3_longest_112 ?_
            refine x_goto (tgt := 4) M dX3_longest_115 (by decide) ?_
            have h9 := ih (k + 1) (by omega)
            rw [nxt_s hfo, if_neg (fun h : due B k ∧ bef B k j => (fun h => absurd h.2 (by omega)) h.1)] at h9
            exact h9 _ _
          · refine x_iconst (v := nI 1) M dX3_longest_34 (by decide +kernel) ?_
            refine x_goto (tgt := 39) M dX3_longest_35 (by decide) ?_
            refine x_istore3 M dX3_longest_39 ?_
            refine x_iload3 M dX3_longest_40 ?_
            refine n_if_eq (tgt := 98) M (by first | omega | exact hB _ _) dX3_longest_41 (by decide) (fun q41 => absurd q41 (by decide)) (fun q41 => ?_)
            refine x_iload1 M dX3_longest_44 ?_
            refine x_iconst (v := (-1)) M dX3_longest_45 (by decide +kernel) ?_
            refine x_icmp_eq (tgt := 94) M dX3_longest_46 (by decide) (fun q46 => absurd q46 (nI_m1 (by omega))) (fun q46 => ?_)
            refine x_aload0 M dX3_longest_49 ?_
            refine gM12 M TB kw_427 dX3_longest_50 ?_
            refine x_iload2 M dX3_longest_53 ?_
            refine aM9 M TB (by omega) dX3_longest_54 ?_
            refine x_aload0 M dX3_longest_55 ?_
            refine gM12 M TB kw_427 dX3_longest_56 ?_
            refine x_iload1 M dX3_longest_59 ?_
            refine aM9 M TB (by omega) dX3_longest_60 ?_
            refine n_icmp_lt (tgt := 94) M (by first | omega | exact hB _ _) (by first | omega | exact hB _ _) dX3_longest_61 (by decide) (fun q61 => ?_) (fun q61 => ?_)
            · refine x_iconst (v := nI 1) M dX3_longest_94 (by decide +kernel) ?_
              refine x_goto (tgt := 99) M dX3_longest_95 (by decide) ?_
              refine x_istore4 M dX3_longest_99 ?_
              refine x_iload4 M dX3_longest_101 ?_
              refine n_if_eq (tgt := 110) M (by first | omega | exact hB _ _) dX3_longest_103 (by decide) (fun q103 => absurd q103 (by decide)) (fun q103 => ?_)
              refine x_iload2 M dX3_longest_106 ?_
              refine x_goto (tgt := 111) M dX3_longest_107 (by decide) ?_
              refine x_istore1 M dX3_longest_111 ?_
              refine n_inc2 M dX3_longest_112 ?_
              refine x_goto (tgt := 4) M dX3_longest_115 (by decide) ?_
              have h9 := ih (k + 1) (by omega)
              rw [nxt_s hfo, if_pos ⟨⟨by omega, q31⟩, Or.inl q61⟩] at h9
              exact h9 _ _
            · refine x_aload0 M dX3_longest_64 ?_
              refine gM12 M TB kw_427 dX3_longest_65 ?_
              refine x_iload2 M dX3_longest_68 ?_
              refine aM9 M TB (by omega) dX3_longest_69 ?_
              refine x_aload0 M dX3_longest_70 ?_
              refine gM12 M TB kw_427 dX3_longest_71 ?_
              refine x_iload1 M dX3_longest_74 ?_
              refine aM9 M TB (by omega) dX3_longest_75 ?_
              refine n_icmp_ne (tgt := 98) M (by first | omega | exact hB _ _) (by first | omega | exact hB _ _) dX3_longest_76 (by decide) (fun q76 => ?_) (fun q76 => ?_)
              · refine x_iconst (v := nI 0) M dX3_longest_98 (by decide +kernel) ?_
                refine x_istore4 M dX3_longest_99 ?_
                refine x_iload4 M dX3_longest_101 ?_
                refine n_if_eq (tgt := 110) M (by first | omega | exact hB _ _) dX3_longest_103 (by decide) (fun q103 => ?_) (fun q103 => absurd rfl q103)
                refine x_iload1 M dX3_longest_110 ?_
                refine x_istore1 M dX3_longest_111 ?_
                refine n_inc2 M dX3_longest_112 ?_
                refine x_goto (tgt := 4) M dX3_longest_115 (by decide) ?_
                have h9 := ih (k + 1) (by omega)
                rw [nxt_s hfo, if_neg (fun h : due B k ∧ bef B k j => absurd h.2 (by unfold bef; omega))] at h9
                exact h9 _ _
              · refine x_aload0 M dX3_longest_79 ?_
                refine gM11 M TB kw_426 dX3_longest_80 ?_
                refine x_iload2 M dX3_longest_83 ?_
                refine aM8 M TB (by omega) dX3_longest_84 ?_
                refine x_aload0 M dX3_longest_85 ?_
                refine gM11 M TB kw_426 dX3_longest_86 ?_
                refine x_iload1 M dX3_longest_89 ?_
                refine aM8 M TB (by omega) dX3_longest_90 ?_
                refine n_icmp_ge (tgt := 98) M (by first | omega | exact hB _ _) (by first | omega | exact hB _ _) dX3_longest_91 (by decide) (fun q91 => ?_) (fun q91 => ?_)
                · refine x_iconst (v := nI 0) M dX3_longest_98 (by decide +kernel) ?_
                  refine x_istore4 M dX3_longest_99 ?_
                  refine x_iload4 M dX3_longest_101 ?_
                  refine n_if_eq (tgt := 110) M (by first | omega | exact hB _ _) dX3_longest_103 (by decide) (fun q103 => ?_) (fun q103 => absurd rfl q103)
                  refine x_iload1 M dX3_longest_110 ?_
                  refine x_istore1 M dX3_longest_111 ?_
                  refine n_inc2 M dX3_longest_112 ?_
                  refine x_goto (tgt := 4) M dX3_longest_115 (by decide) ?_
                  have h9 := ih (k + 1) (by omega)
                  rw [nxt_s hfo, if_neg (fun h : due B k ∧ bef B k j => absurd h.2 (by unfold bef; omega))] at h9
                  exact h9 _ _
                · refine x_iconst (v := nI 1) M dX3_longest_94 (by decide +kernel) ?_
                  refine x_goto (tgt := 99) M dX3_longest_95 (by decide) ?_
                  refine x_istore4 M dX3_longest_99 ?_
                  refine x_iload4 M dX3_longest_101 ?_
                  refine n_if_eq (tgt := 110) M (by first | omega | exact hB _ _) dX3_longest_103 (by decide) (fun q103 => absurd q103 (by decide)) (fun q103 => ?_)
                  refine x_iload2 M dX3_longest_106 ?_
                  refine x_goto (tgt := 111) M dX3_longest_107 (by decide) ?_
                  refine x_istore1 M dX3_longest_111 ?_
                  refine n_inc2 M dX3_longest_112 ?_
                  refine x_goto (tgt := 4) M dX3_longest_115 (by decide) ?_
                  have h9 := ih (k + 1) (by omega)
                  rw [nxt_s hfo, if_pos ⟨⟨by omega, q31⟩, Or.inr ⟨q76, q91⟩⟩] at h9
                  exact h9 _ _
  refine x_iconst (v := (-1)) M dX3_longest_0 (by decide +kernel) ?_
  refine x_istore1 M dX3_longest_1 ?_
  refine x_iconst (v := nI 0) M dX3_longest_2 (by decide +kernel) ?_
  refine x_istore2 M dX3_longest_3 ?_
  exact loop (B 0 0) 0 (by omega) _ _
end XM
end
section
/-! the reference's methods: a minute, pass -/
section XM
variable {l : Launch} {D : va_G} {kc : Nat → ClassId} {A : Nat → Prop} {ad : Nat → Nat} {X B : St} {th : Nat} {ov : Int64} {hw : Nat}
def bat (Z : St) (k : Nat) : St := fun r i => if r = 5 ∧ i < k then Z 5 i - 1 else Z r i
def mem (Y : St) (k : Nat) : St := fun r i => if r = 10 ∧ i < 720 ∧ i % 60 = Y 0 1 % 60 ∧ i / 60 < k then lnow Y (i / 60) (Y 0 0) else if r = 11 ∧ i < k then min (Y 11 i) (lnow Y i (Y 0 0)) else Y r i
theorem bat_0 (Z : St) : bat Z 0 = Z := funext fun r => funext fun i => if_neg (by omega)
theorem bat_1 (Z : St) (k : Nat) : up (bat Z k) 5 k (bat Z k 5 k - 1) = bat Z (k + 1) := by
  have e : bat Z k 5 k = Z 5 k := if_neg (by omega)
  rw [e]
  funext r i
  unfold up
  by_cases h : r = 5 ∧ i = k
  · rw [if_pos h, h.1, h.2]
    exact (if_pos ⟨rfl, by omega⟩).symm
  · rw [if_neg h]
    unfold bat
    by_cases h2 : r = 5 ∧ i < k
    · rw [if_pos h2, if_pos (by omega)]
    · rw [if_neg h2, if_neg (by omega)]
theorem lnow_eq {S T : St} (w : Nat) (h : ∀ i, S 2 i = T 2 i ∧ S 3 i = T 3 i) : ∀ k, lnow S w k = lnow T w k
  | 0 => rfl
  | k + 1 => by
    unfold lnow
    rw [(h k).1, (h k).2, lnow_eq w h k]
theorem mem_0 (Y : St) : mem Y 0 = Y := funext fun r => funext fun i => by
  unfold mem
  rw [if_neg (by omega), if_neg (by omega)]
theorem mem_1 (Y : St) {k : Nat} (hk : k < 12) : up (up (mem Y k) 10 (60 * k + mem Y k 0 1 % 60) (lnow Y k (Y 0 0))) 11 k (min (up (mem Y k) 10 (60 * k + mem Y k 0 1 % 60) (lnow Y k (Y 0 0)) 11 k) (lnow Y k (Y 0 0))) = mem Y (k + 1) := by
  have e1 : mem Y k 0 1 = Y 0 1 := by unfold mem; rw [if_neg (by omega), if_neg (by omega)]
  have e2 : up (mem Y k) 10 (60 * k + mem Y k 0 1 % 60) (lnow Y k (Y 0 0)) 11 k = Y 11 k := by
    rw [up_r _ (by decide)]
    unfold mem
    rw [if_neg (by omega), if_neg (by omega)]
  have hq : Y 0 1 % 60 < 60 := Nat.mod_lt _ (by decide)
  rw [e2, e1]
  funext r i
  by_cases h11 : r = 11 ∧ i = k
  · obtain ⟨rfl, rfl⟩ := h11
    rw [up_s]
    unfold mem
    rw [if_neg (by omega), if_pos (by omega)]
  · rw [up_n _ h11]
    by_cases h10 : r = 10 ∧ i = 60 * k + Y 0 1 % 60
    · obtain ⟨rfl, rfl⟩ := h10
      rw [up_s]
      unfold mem
      rw [if_pos (by omega), show (60 * k + Y 0 1 % 60) / 60 = k by omega]
    · rw [up_n _ h10]
      unfold mem
      by_cases h1 : r = 10 ∧ i < 720 ∧ i % 60 = Y 0 1 % 60 ∧ i / 60 < k
      · rw [if_pos h1, if_pos (by omega)]
      · have h3 : ¬ (r = 10 ∧ i < 720 ∧ i % 60 = Y 0 1 % 60 ∧ i / 60 < k + 1) := by omega
        rw [if_neg h1, if_neg h3]
        by_cases h2 : r = 11 ∧ i < k
        · rw [if_pos h2, if_pos (by omega)]
        · rw [if_neg h2, if_neg (by omega)]
theorem mem_n (Y : St) (w k n : Nat) : lnow (mem Y k) w n = lnow Y w n := lnow_eq w (fun i => ⟨by unfold mem; rw [if_neg (by omega), if_neg (by omega)], by unfold mem; rw [if_neg (by omega), if_neg (by omega)]⟩) n
theorem mem_z (Y : St) (k i : Nat) : mem Y k 0 i = Y 0 i := by unfold mem; rw [if_neg (by omega), if_neg (by omega)]
theorem bat_z (Y : St) (k i : Nat) : bat Y k 0 i = Y 0 i := if_neg (by omega)
theorem mem_xem (Z : St) : mem (bat Z (Z 0 0)) 12 = xem Z (Z 0 0) := by
  have hl : ∀ w n, lnow (bat Z (Z 0 0)) w n = lnow Z w n := fun w n => lnow_eq w (fun i => ⟨if_neg (by omega), if_neg (by omega)⟩) n
  funext r i
  unfold mem xem
  rw [bat_z, bat_z, hl, hl]
  by_cases h5 : r = 5
  · subst h5
    rw [if_neg (by omega), if_neg (by omega), if_pos rfl]
    unfold bat
    by_cases h : i < Z 0 0
    · rw [if_pos ⟨rfl, h⟩, if_pos h]
    · rw [if_neg (fun q => h q.2), if_neg h]
  · rw [if_neg h5]
    by_cases h10 : r = 10
    · subst h10
      rw [if_pos rfl]
      by_cases h : i < 720 ∧ i % 60 = Z 0 1 % 60
      · rw [if_pos h, if_pos (by omega)]
      · rw [if_neg h, if_neg (by omega), if_neg (by omega)]
        exact if_neg (by omega)
    · rw [if_neg h10, if_neg (fun q => h10 q.1)]
      by_cases h11 : r = 11
      · subst h11
        rw [if_pos rfl, show bat Z (Z 0 0) 11 i = Z 11 i from if_neg (by omega)]
        by_cases h : i < 12
        · rw [if_pos ⟨rfl, h⟩, if_pos h]
        · rw [if_neg (fun q => h q.2), if_neg h]
      · rw [if_neg h11, if_neg (fun q => h11 q.1)]
        exact if_neg (fun q => h5 q.1)
theorem Ok_bat {S : St} (h : Ok S) (k : Nat) : Ok (bat S k) := fun r i => by
  have h5 := h.bd 5 i
  unfold bat
  split
  · rename_i q; exact okv_5 (by omega) (by omega)
  · exact h r i
theorem Ok_mem {S : St} (h : Ok S) (k : Nat) : Ok (mem S k) := fun r i => by
  have h1 := lnow_le S (i / 60) (S 0 0)
  have h2 := lnow_le S i (S 0 0)
  have h3 := h.e i
  unfold mem
  split
  · exact okv_o (by omega) (by omega) (by omega) (by omega) (by omega) (by omega) (by omega) (by omega) (by omega)
  · split
    · exact okv_o (by omega) (by omega) (by omega) (by omega) (by omega) (by omega) (by omega) (by omega) (by omega)
    · exact h r i
theorem mv_X3_goes : x_MV yX3_goes cX3_goes 4 (some FieldType.int) 0 := ⟨kw_518, kw_21, ⟨by decide +kernel, by decide +kernel⟩, by decide +kernel, kw_517, kw_11⟩
abbrev rm_X3_goes : Room := { frames := 3, cells := 0, slots := 0, locals := 68 }
set_option maxRecDepth 20000 in
set_option maxHeartbeats 2000000 in
theorem m_goes (hO : Ok B) (ht0 : B 0 1 < 10000) (hh : B 0 0 ≤ hw) : x_Ret l D kc A yX3_goes cX3_goes 4 (some FieldType.int) rm_X3_goes [.ref (ad 6)] (wl kc ad X (B) (th) ov (hw)) (some (.int (nI (mnt B).2))) (wl kc ad X ((mnt B).1) (th) ov (hw)) := by
  refine x_ret_of RX3 (by decide +kernel) rfl [some (.ref (ad 6)), none, none, none] (Nat.le_of_ble_eq_true rfl) rfl rfl ?_
  intro p e s m args below meth c M hr hlk hnm TB hAA
  have hB : ∀ r i, B r i < 2 ^ 31 := fun r i => Nat.lt_trans (hO.bd r i) (by decide)
  have J2 : ∀ (Z : St) (n0 : Nat), Ok Z → Z 0 0 = B 0 0 → xem Z (B 0 0) = (mnt B).1 → n0 = (mnt B).2 → ∀ b3 : Option Value, x_X p l e rm_X3_goes s m args below meth c D A 4 0 0 (MQ below (x_Qc D A (some (.int (nI (mnt B).2))) (wl kc ad X ((mnt B).1) (th) ov (hw))) args s rm_X3_goes.cells rm_X3_goes.slots A) (wl kc ad X (Z) (th) ov (hw)) 14 [some (.ref (ad 6)), some (.int (nI n0)), some (.int (nI 2)), b3] [] := by
    intro Z n0 hOZ hz e1 e2 b3
    have hn := hOZ.n
    have ht := hOZ.t
    have hB : ∀ r i, Z r i < 2 ^ 31 := fun r i => Nat.lt_trans (hOZ.bd r i) (by decide)
    have hY : Ok (bat Z (Z 0 0)) := Ok_bat hOZ _
    have L84 : ∀ (d k : Nat), k + d = 12 → ∀ b3 : Option Value, x_X p l e rm_X3_goes s m args below meth c D A 4 0 0 (MQ below (x_Qc D A (some (.int (nI (mnt B).2))) (wl kc ad X ((mnt B).1) (th) ov (hw))) args s rm_X3_goes.cells rm_X3_goes.slots A) (wl kc ad X (mem (bat Z (Z 0 0)) k) (th) ov (hw)) 84 [some (.ref (ad 6)), some (.int (nI n0)), some (.int (nI k)), b3] [] := by
      intro d
      induction d with
      | zero =>
        intro k hk b3
        refine x_iload2 M dX3_goes_84 ?_
        refine x_bipush (v := nI 12) M dX3_goes_85 (by decide +kernel) ?_
        refine n_icmp_ge (tgt := 136) M (by first | omega | exact hB _ _) (by first | omega | exact hB _ _) dX3_goes_87 (by decide) (fun q87 => ?_) (fun q87 => absurd q87 (by omega))
        refine x_iload1 M dX3_goes_136 ?_
        exact x_iret M hr hlk dX3_goes_137 ⟨by decide, by decide⟩ (by rw [e2]) (by rw [show k = 12 by omega, mem_xem, hz, e1])
      | succ d ih =>
        intro k hk b3
        have hm := Ok_mem hY k
        have hB : ∀ r i, mem (bat Z (Z 0 0)) k r i < 2 ^ 31 := fun r i => Nat.lt_trans (hm.bd r i) (by decide)
        have hv := lnow_le (bat Z (Z 0 0)) k ((bat Z (Z 0 0)) 0 0)
        refine x_iload2 M dX3_goes_84 ?_
        refine x_bipush (v := nI 12) M dX3_goes_85 (by decide +kernel) ?_
        refine n_icmp_ge (tgt := 136) M (by first | omega | exact hB _ _) (by first | omega | exact hB _ _) dX3_goes_87 (by decide) (fun q87 => absurd q87 (by omega)) (fun q87 => ?_)
        refine x_aload0 M dX3_goes_90 ?_
        refine x_iload2 M dX3_goes_91 ?_
        refine x_callV0 M TB hAA mv_X3_leastNow kw_534 dX3_goes_92 (m_leastNow (B := mem (bat Z (Z 0 0)) k) hm (w := k) (by omega)) rfl wl_M rfl rfl ⟨by decide, by decide⟩ ⟨by decide, by decide⟩ (Nat.le_of_ble_eq_true rfl) ?_
        rw [mem_n, mem_z]
        refine x_istore3 M dX3_goes_95 ?_
        refine x_aload0 M dX3_goes_96 ?_
        refine gM13 M TB kw_428 dX3_goes_97 ?_
        refine x_bipush (v := nI 60) M dX3_goes_100 (by decide +kernel) ?_
        refine x_iload2 M dX3_goes_102 ?_
        refine n_mul M dX3_goes_103 ?_
        refine x_aload0 M dX3_goes_104 ?_
        refine gM1 M TB kw_416 dX3_goes_105 ?_
        refine x_bipush (v := nI 60) M dX3_goes_108 (by decide +kernel) ?_
        refine n_rem M (by first | omega | exact hB _ _) (by omega) (by first | omega | exact hB _ _) dX3_goes_110 ?_
        refine n_add M dX3_goes_111 ?_
        refine x_iload3 M dX3_goes_112 ?_
        refine sM10 (v := (lnow (bat Z (Z 0 0)) k ((bat Z (Z 0 0)) 0 0))) M TB (by omega) rfl dX3_goes_113 ?_
        refine x_aload0 M dX3_goes_114 ?_
        refine gM14 M TB kw_429 dX3_goes_115 ?_
        refine x_iload2 M dX3_goes_118 ?_
        refine x_aload0 M dX3_goes_119 ?_
        refine gM14 M TB kw_429 dX3_goes_120 ?_
        refine x_iload2 M dX3_goes_123 ?_
        refine aM11 M TB (by omega) dX3_goes_124 ?_
        refine x_iload3 M dX3_goes_125 ?_
        refine x_callS0 M TB hAA mv_X3_lesser kw_538 dX3_goes_126 (m_lesser (B := (up (mem (bat Z (Z 0 0)) k) 10 (60 * k + mem (bat Z (Z 0 0)) k 0 1 % 60) (lnow (bat Z (Z 0 0)) k ((bat Z (Z 0 0)) 0 0)))) (a := (up (mem (bat Z (Z 0 0)) k) 10 (60 * k + mem (bat Z (Z 0 0)) k 0 1 % 60) (lnow (bat Z (Z 0 0)) k ((bat Z (Z 0 0)) 0 0))) 11 k) (b := (lnow (bat Z (Z 0 0)) k ((bat Z (Z 0 0)) 0 0))) (hm.e k) hv) rfl ⟨by decide, by decide⟩ ⟨by decide, by decide⟩ (Nat.le_of_ble_eq_true rfl) ?_
        refine sM11 (v := min ((up (mem (bat Z (Z 0 0)) k) 10 (60 * k + mem (bat Z (Z 0 0)) k 0 1 % 60) (lnow (bat Z (Z 0 0)) k ((bat Z (Z 0 0)) 0 0))) 11 k) (lnow (bat Z (Z 0 0)) k ((bat Z (Z 0 0)) 0 0))) M TB (by omega) rfl dX3_goes_129 ?_
        refine n_inc2 M dX3_goes_130 ?_
        refine x_goto (tgt := 84) M dX3_goes_133 (by decide) ?_
        exact x_ws (by rw [mem_1 (bat Z (Z 0 0)) (by omega)]) (ih (k + 1) (by omega) _)
    have L45 : ∀ (d k : Nat), k + d = Z 0 0 → ∀ b3 : Option Value, x_X p l e rm_X3_goes s m args below meth c D A 4 0 0 (MQ below (x_Qc D A (some (.int (nI (mnt B).2))) (wl kc ad X ((mnt B).1) (th) ov (hw))) args s rm_X3_goes.cells rm_X3_goes.slots A) (wl kc ad X (bat Z k) (th) ov (hw)) 45 [some (.ref (ad 6)), some (.int (nI n0)), some (.int (nI k)), b3] [] := by
      intro d
      induction d with
      | zero =>
        intro k hk b3
        have e0 : bat Z k 0 0 = Z 0 0 := bat_z _ _ _
        have hm := Ok_bat hOZ k
        have hB : ∀ r i, bat Z k r i < 2 ^ 31 := fun r i => Nat.lt_trans (hm.bd r i) (by decide)
        refine x_iload2 M dX3_goes_45 ?_
        refine x_aload0 M dX3_goes_46 ?_
        refine gM4 M TB kw_419 dX3_goes_47 ?_
        refine n_icmp_ge (tgt := 82) M (by first | omega | exact hB _ _) (by first | omega | exact hB _ _) dX3_goes_50 (by decide) (fun q50 => ?_) (fun q50 => absurd q50 (by omega))
        refine x_iconst (v := nI 0) M dX3_goes_82 (by decide +kernel) ?_
        refine x_istore2 M dX3_goes_83 ?_
        exact x_ws (by rw [mem_0, show k = Z 0 0 by omega]) (L84 12 0 (by omega) _)
      | succ d ih =>
        intro k hk b3
        have e0 : bat Z k 0 0 = Z 0 0 := bat_z _ _ _
        have hm := Ok_bat hOZ k
        have hB : ∀ r i, bat Z k r i < 2 ^ 31 := fun r i => Nat.lt_trans (hm.bd r i) (by decide)
        refine x_iload2 M dX3_goes_45 ?_
        refine x_aload0 M dX3_goes_46 ?_
        refine gM4 M TB kw_419 dX3_goes_47 ?_
        refine n_icmp_ge (tgt := 82) M (by first | omega | exact hB _ _) (by first | omega | exact hB _ _) dX3_goes_50 (by decide) (fun q50 => absurd q50 (by omega)) (fun q50 => ?_)
        refine x_aload0 M dX3_goes_53 ?_
        refine gM8 M TB kw_423 dX3_goes_54 ?_
        refine x_iload2 M dX3_goes_57 ?_
        refine x_dup2 M dX3_goes_58 rfl rfl ?_
        refine aM5 M TB (by omega) (by omega) dX3_goes_59 ?_
        refine x_aload0 M dX3_goes_60 ?_
        refine gM8 M TB kw_423 dX3_goes_61 ?_
        refine x_iload2 M dX3_goes_64 ?_
        refine aM5 M TB (by omega) (by omega) dX3_goes_65 ?_
        refine n_if_le (tgt := 73) M (by first | omega | exact hB _ _) dX3_goes_66 (by decide) (fun q66 => ?_) (fun q66 => ?_)
        · refine x_iconst (v := nI 0) M dX3_goes_73 (by decide +kernel) ?_
          refine n_sub M (by omega) dX3_goes_74 ?_
          refine sM5 M TB (by omega) (by omega) dX3_goes_75 ?_
          refine n_inc2 M dX3_goes_76 ?_
          refine x_goto (tgt := 45) M dX3_goes_79 (by decide) ?_
          exact x_ws (by rw [show bat Z k 5 k - 0 = bat Z k 5 k - 1 by omega, bat_1]) (ih (k + 1) (by omega) _)
        · refine x_iconst (v := nI 1) M dX3_goes_69 (by decide +kernel) ?_
          refine x_goto (tgt := 74) M dX3_goes_70 (by decide) ?_
          refine n_sub M (by omega) dX3_goes_74 ?_
          refine sM5 M TB (by omega) (by omega) dX3_goes_75 ?_
          refine n_inc2 M dX3_goes_76 ?_
          refine x_goto (tgt := 45) M dX3_goes_79 (by decide) ?_
          exact x_ws (by rw [bat_1]) (ih (k + 1) (by omega) _)
    refine x_iload2 M dX3_goes_14 ?_
    refine x_iconst (v := nI 2) M dX3_goes_15 (by decide +kernel) ?_
    refine n_icmp_ge (tgt := 43) M (by first | omega | exact hB _ _) (by first | omega | exact hB _ _) dX3_goes_16 (by decide) (fun q16 => ?_) (fun q16 => absurd q16 (by omega))
    refine x_iconst (v := nI 0) M dX3_goes_43 (by decide +kernel) ?_
    refine x_istore2 M dX3_goes_44 ?_
    exact x_ws (bat_0 Z ▸ rfl) (L45 (Z 0 0) 0 (by omega) _)
  have J1 : ∀ (Z : St) (n0 : Nat), Ok Z → Z 0 0 = B 0 0 → xem (slot Z).1 (B 0 0) = (mnt B).1 → n0 + (slot Z).2 = (mnt B).2 → ∀ b3 : Option Value, x_X p l e rm_X3_goes s m args below meth c D A 4 0 0 (MQ below (x_Qc D A (some (.int (nI (mnt B).2))) (wl kc ad X ((mnt B).1) (th) ov (hw))) args s rm_X3_goes.cells rm_X3_goes.slots A) (wl kc ad X (Z) (th) ov (hw)) 14 [some (.ref (ad 6)), some (.int (nI n0)), some (.int (nI 1)), b3] [] := by
    intro Z n0 hOZ hz e1 e2 b3
    have hn := hOZ.n
    have ht := hOZ.t
    have hB : ∀ r i, Z r i < 2 ^ 31 := fun r i => Nat.lt_trans (hOZ.bd r i) (by decide)
    cases hfo : nxt Z (Z 0 0) with
    | none =>
      rw [slot_n hfo] at e1 e2
      refine x_iload2 M dX3_goes_14 ?_
      refine x_iconst (v := nI 2) M dX3_goes_15 (by decide +kernel) ?_
      refine n_icmp_ge (tgt := 43) M (by first | omega | exact hB _ _) (by first | omega | exact hB _ _) dX3_goes_16 (by decide) (fun q16 => absurd q16 (by omega)) (fun q16 => ?_)
      refine x_aload0 M dX3_goes_19 ?_
      refine x_callV0 M TB hAA mv_X3_longest kw_519 dX3_goes_20 (m_longest hOZ) rfl wl_M rfl rfl ⟨by decide, by decide⟩ ⟨by decide, by decide⟩ (Nat.le_of_ble_eq_true rfl) ?_
      rw [hfo]
      refine x_istore3 M dX3_goes_23 ?_
      refine x_iload3 M dX3_goes_24 ?_
      refine x_iconst (v := (-1)) M dX3_goes_25 (by decide +kernel) ?_
      refine x_icmp_eq (tgt := 37) M dX3_goes_26 (by decide) (fun q26 => ?_) (fun q26 => absurd rfl q26)
      refine n_inc2 M dX3_goes_37 ?_
      refine x_goto (tgt := 14) M dX3_goes_40 (by decide) ?_
      exact J2 Z n0 hOZ hz e1 e2 _
    | some j =>
      have hj := nxt_of hfo
      rw [slot_s hfo] at e1 e2
      refine x_iload2 M dX3_goes_14 ?_
      refine x_iconst (v := nI 2) M dX3_goes_15 (by decide +kernel) ?_
      refine n_icmp_ge (tgt := 43) M (by first | omega | exact hB _ _) (by first | omega | exact hB _ _) dX3_goes_16 (by decide) (fun q16 => absurd q16 (by omega)) (fun q16 => ?_)
      refine x_aload0 M dX3_goes_19 ?_
      refine x_callV0 M TB hAA mv_X3_longest kw_519 dX3_goes_20 (m_longest hOZ) rfl wl_M rfl rfl ⟨by decide, by decide⟩ ⟨by decide, by decide⟩ (Nat.le_of_ble_eq_true rfl) ?_
      rw [hfo]
      refine x_istore3 M dX3_goes_23 ?_
      refine x_iload3 M dX3_goes_24 ?_
      refine x_iconst (v := (-1)) M dX3_goes_25 (by decide +kernel) ?_
      refine x_icmp_eq (tgt := 37) M dX3_goes_26 (by decide) (fun q26 => absurd q26 (nI_m1 (by omega))) (fun q26 => ?_)
      refine x_aload0 M dX3_goes_29 ?_
      refine x_iload3 M dX3_goes_30 ?_
      refine x_callV0 M TB hAA mv_X3_sends kw_523 dX3_goes_31 (m_sends (B := Z) hOZ (i := j) (by omega) (by omega)) rfl wl_M rfl rfl ⟨by decide, by decide⟩ ⟨by decide, by decide⟩ (Nat.le_of_ble_eq_true rfl) ?_
      refine n_inc1 M dX3_goes_34 ?_
      refine n_inc2 M dX3_goes_37 ?_
      refine x_goto (tgt := 14) M dX3_goes_40 (by decide) ?_
      exact J2 (sen Z j) (n0 + 1) (Ok_sen hOZ j) ((sen_0 Z j 0).trans hz) e1 e2 _
  have J0 : ∀ (Z : St) (n0 : Nat), Ok Z → Z 0 0 = B 0 0 → xem (slot (slot Z).1).1 (B 0 0) = (mnt B).1 → n0 + (slot Z).2 + (slot (slot Z).1).2 = (mnt B).2 → ∀ b3 : Option Value, x_X p l e rm_X3_goes s m args below meth c D A 4 0 0 (MQ below (x_Qc D A (some (.int (nI (mnt B).2))) (wl kc ad X ((mnt B).1) (th) ov (hw))) args s rm_X3_goes.cells rm_X3_goes.slots A) (wl kc ad X (Z) (th) ov (hw)) 14 [some (.ref (ad 6)), some (.int (nI n0)), some (.int (nI 0)), b3] [] := by
    intro Z n0 hOZ hz e1 e2 b3
    have hn := hOZ.n
    have ht := hOZ.t
    have hB : ∀ r i, Z r i < 2 ^ 31 := fun r i => Nat.lt_trans (hOZ.bd r i) (by decide)
    cases hfo : nxt Z (Z 0 0) with
    | none =>
      rw [slot_n hfo] at e1 e2
      refine x_iload2 M dX3_goes_14 ?_
      refine x_iconst (v := nI 2) M dX3_goes_15 (by decide +kernel) ?_
      refine n_icmp_ge (tgt := 43) M (by first | omega | exact hB _ _) (by first | omega | exact hB _ _) dX3_goes_16 (by decide) (fun q16 => absurd q16 (by omega)) (fun q16 => ?_)
      refine x_aload0 M dX3_goes_19 ?_
      refine x_callV0 M TB hAA mv_X3_longest kw_519 dX3_goes_20 (m_longest hOZ) rfl wl_M rfl rfl ⟨by decide, by decide⟩ ⟨by decide, by decide⟩ (Nat.le_of_ble_eq_true rfl) ?_
      rw [hfo]
      refine x_istore3 M dX3_goes_23 ?_
      refine x_iload3 M dX3_goes_24 ?_
      refine x_iconst (v := (-1)) M dX3_goes_25 (by decide +kernel) ?_
      refine x_icmp_eq (tgt := 37) M dX3_goes_26 (by decide) (fun q26 => ?_) (fun q26 => absurd rfl q26)
      refine n_inc2 M dX3_goes_37 ?_
      refine x_goto (tgt := 14) M dX3_goes_40 (by decide) ?_
      exact J1 Z n0 hOZ hz e1 e2 _
    | some j =>
      have hj := nxt_of hfo
      rw [slot_s hfo] at e1 e2
      refine x_iload2 M dX3_goes_14 ?_
      refine x_iconst (v := nI 2) M dX3_goes_15 (by decide +kernel) ?_
      refine n_icmp_ge (tgt := 43) M (by first | omega | exact hB _ _) (by first | omega | exact hB _ _) dX3_goes_16 (by decide) (fun q16 => absurd q16 (by omega)) (fun q16 => ?_)
      refine x_aload0 M dX3_goes_19 ?_
      refine x_callV0 M TB hAA mv_X3_longest kw_519 dX3_goes_20 (m_longest hOZ) rfl wl_M rfl rfl ⟨by decide, by decide⟩ ⟨by decide, by decide⟩ (Nat.le_of_ble_eq_true rfl) ?_
      rw [hfo]
      refine x_istore3 M dX3_goes_23 ?_
      refine x_iload3 M dX3_goes_24 ?_
      refine x_iconst (v := (-1)) M dX3_goes_25 (by decide +kernel) ?_
      refine x_icmp_eq (tgt := 37) M dX3_goes_26 (by decide) (fun q26 => absurd q26 (nI_m1 (by omega))) (fun q26 => ?_)
      refine x_aload0 M dX3_goes_29 ?_
      refine x_iload3 M dX3_goes_30 ?_
      refine x_callV0 M TB hAA mv_X3_sends kw_523 dX3_goes_31 (m_sends (B := Z) hOZ (i := j) (by omega) (by omega)) rfl wl_M rfl rfl ⟨by decide, by decide⟩ ⟨by decide, by decide⟩ (Nat.le_of_ble_eq_true rfl) ?_
      refine n_inc1 M dX3_goes_34 ?_
      refine n_inc2 M dX3_goes_37 ?_
      refine x_goto (tgt := 14) M dX3_goes_40 (by decide) ?_
      exact J1 (sen Z j) (n0 + 1) (Ok_sen hOZ j) ((sen_0 Z j 0).trans hz) e1 e2 _
  refine x_iconst (v := nI 0) M dX3_goes_0 (by decide +kernel) ?_
  refine x_istore1 M dX3_goes_1 ?_
  refine x_aload0 M dX3_goes_2 ?_
  refine x_dup M dX3_goes_3 rfl ?_
  refine gM1 M TB kw_416 dX3_goes_4 ?_
  refine x_iconst (v := nI 1) M dX3_goes_7 (by decide +kernel) ?_
  refine n_add M dX3_goes_8 ?_
  refine pM1 M TB kw_416 dX3_goes_9 ?_
  refine x_iconst (v := nI 0) M dX3_goes_12 (by decide +kernel) ?_
  refine x_istore2 M dX3_goes_13 ?_
  exact J0 (tick B) 0 (Ok_tick hO ht0) rfl rfl (by show 0 + _ + _ = _ + _; omega) _
theorem mv_X3_pass : x_MV yX3_pass cX3_pass 4 (some FieldType.int) 1 := ⟨kw_514, kw_21, ⟨by decide +kernel, by decide +kernel⟩, by decide +kernel, kw_512, kw_513⟩
abbrev rm_X3_pass : Room := { frames := 4, cells := 0, slots := 0, locals := 91 }
set_option maxRecDepth 20000 in
set_option maxHeartbeats 2000000 in
theorem m_pass (hO : Ok B) {n : Nat} (h1 : 1 ≤ n) (h2 : n ≤ 200) (ht0 : B 0 1 + n ≤ 10000) (hh : B 0 0 ≤ hw) : x_Ret l D kc A yX3_pass cX3_pass 4 (some FieldType.int) rm_X3_pass [.ref (ad 6), .int (nI n)] (wl kc ad X (B) (th) ov (hw)) (some (.int (nI (mnts B n).2))) (wl kc ad X ((mnts B n).1) (0) ov (hw)) := by
  refine x_ret_of RX3 (by decide +kernel) rfl [some (.ref (ad 6)), some (.int (nI n)), none, none] (Nat.le_of_ble_eq_true rfl) rfl rfl ?_
  intro p e s m args below meth c M hr hlk hnm TB hAA
  have hB : ∀ r i, B r i < 2 ^ 31 := fun r i => Nat.lt_trans (hO.bd r i) (by decide)
  have loop : ∀ (d k : Nat), k + d = n → x_X p l e rm_X3_pass s m args below meth c D A 4 0 0 (MQ below (x_Qc D A (some (.int (nI (mnts B n).2))) (wl kc ad X ((mnts B n).1) (0) ov (hw))) args s rm_X3_pass.cells rm_X3_pass.slots A) (wl kc ad X ((mnts B k).1) (0) ov (hw)) 45 [some (.ref (ad 6)), some (.int (nI n)), some (.int (nI (mnts B k).2)), some (.int (nI k))] [] := by
    intro d
    induction d with
    | zero =>
      intro k hk
      obtain ⟨hk1, hk2, hk3⟩ := mnts_ok hO k (by omega)
      refine x_iload3 M dX3_pass_45 ?_
      refine x_iload1 M dX3_pass_46 ?_
      refine n_icmp_ge (tgt := 63) M (by first | omega | exact hB _ _) (by first | omega | exact hB _ _) dX3_pass_47 (by decide) (fun q47 => ?_) (fun q47 => absurd q47 (by omega))
      refine x_iload2 M dX3_pass_63 ?_
      exact x_iret M hr hlk dX3_pass_64 ⟨by decide, by decide⟩ (by rw [show k = n by omega]) (by rw [show k = n by omega])
    | succ d ih =>
      intro k hk
      obtain ⟨hk1, hk2, hk3⟩ := mnts_ok hO k (by omega)
      refine x_iload3 M dX3_pass_45 ?_
      refine x_iload1 M dX3_pass_46 ?_
      refine n_icmp_ge (tgt := 63) M (by first | omega | exact hB _ _) (by first | omega | exact hB _ _) dX3_pass_47 (by decide) (fun q47 => absurd q47 (by omega)) (fun q47 => ?_)
      refine x_iload2 M dX3_pass_50 ?_
      refine x_aload0 M dX3_pass_51 ?_
      refine x_callV0 M TB hAA mv_X3_goes kw_515 dX3_pass_52 (m_goes (B := (mnts B k).1) hk1 (by omega) (by omega)) rfl wl_M rfl rfl ⟨by decide, by decide⟩ ⟨by decide, by decide⟩ (Nat.le_of_ble_eq_true rfl) ?_
      refine n_add M dX3_pass_55 ?_
      refine x_istore2 M dX3_pass_56 ?_
      refine n_inc3 M dX3_pass_57 ?_
      refine x_goto (tgt := 45) M dX3_pass_60 (by decide) ?_
      exact ih (k + 1) (by omega)
  refine x_aload0 M dX3_pass_0 ?_
  refine x_iload1 M dX3_pass_1 ?_
  refine x_iconst (v := nI 1) M dX3_pass_2 (by decide +kernel) ?_
  refine x_sipush (v := nI 200) M dX3_pass_3 (by decide +kernel) ?_
  refine x_callS0 M TB hAA mv_X3_isIn kw_472 dX3_pass_6 m_isIn rfl ⟨by decide, by decide⟩ ⟨by decide, by decide⟩ (Nat.le_of_ble_eq_true rfl) ?_
  refine b_if_ne (tgt := 16) M dX3_pass_9 (by decide) (fun q9 => ?_) (fun q9 => absurd ⟨nI_nlt h1 (by omega), nI_nlt h2 (by decide)⟩ q9)
  refine x_aload0 M dX3_pass_16 ?_
  refine gM1 M TB kw_416 dX3_pass_17 ?_
  refine x_iload1 M dX3_pass_20 ?_
  refine n_add M dX3_pass_21 ?_
  refine x_sipush (v := nI 10000) M dX3_pass_22 (by decide +kernel) ?_
  refine n_icmp_le (tgt := 32) M (by first | omega | exact hB _ _) (by first | omega | exact hB _ _) dX3_pass_25 (by decide) (fun q25 => ?_) (fun q25 => absurd ht0 (by omega))
  refine x_iconst (v := nI 0) M dX3_pass_32 (by decide +kernel) ?_
  refine x_callV0 M TB hAA mv_X3_holds kw_475 dX3_pass_33 m_holds0 rfl wl_M rfl rfl ⟨by decide, by decide⟩ ⟨by decide, by decide⟩ (Nat.le_of_ble_eq_true rfl) ?_
  refine n_if_ne (tgt := 41) M (by first | omega | exact hB _ _) dX3_pass_36 (by decide) (fun q36 => ?_) (fun q36 => absurd q36 (by decide))
  refine x_iconst (v := nI 0) M dX3_pass_41 (by decide +kernel) ?_
  refine x_istore2 M dX3_pass_42 ?_
  refine x_iconst (v := nI 0) M dX3_pass_43 (by decide +kernel) ?_
  refine x_istore3 M dX3_pass_44 ?_
  exact loop n 0 (by omega)
set_option maxRecDepth 20000 in
set_option maxHeartbeats 2000000 in
theorem m_pass1 {x : Int32} (h : ¬ (¬ x < nI 1 ∧ x ≤ nI 200)) : x_Ret l D kc A yX3_pass cX3_pass 4 (some FieldType.int) rm_X3_pass [.ref (ad 6), .int x] (wl kc ad X (B) (th) ov (hw)) (some (.int (nI 0))) (wl kc ad X (B) (1) ov (hw)) := by
  refine x_ret_of RX3 (by decide +kernel) rfl [some (.ref (ad 6)), some (.int x), none, none] (Nat.le_of_ble_eq_true rfl) rfl rfl ?_
  intro p e s m args below meth c M hr hlk hnm TB hAA
  refine x_aload0 M dX3_pass_0 ?_
  refine x_iload1 M dX3_pass_1 ?_
  refine x_iconst (v := nI 1) M dX3_pass_2 (by decide +kernel) ?_
  refine x_sipush (v := nI 200) M dX3_pass_3 (by decide +kernel) ?_
  refine x_callS0 M TB hAA mv_X3_isIn kw_472 dX3_pass_6 m_isIn rfl ⟨by decide, by decide⟩ ⟨by decide, by decide⟩ (Nat.le_of_ble_eq_true rfl) ?_
  refine b_if_ne (tgt := 16) M dX3_pass_9 (by decide) (fun q9 => (h ⟨q9.1, Int32.not_lt.mp q9.2⟩).elim) (fun q9 => ?_)
  refine x_iconst (v := nI 1) M dX3_pass_12 (by decide +kernel) ?_
  refine x_goto (tgt := 33) M dX3_pass_13 (by decide) ?_
  refine x_callV0 M TB hAA mv_X3_holds kw_475 dX3_pass_33 (m_holds1 (t := 1) (by decide) (by decide)) rfl wl_M rfl rfl ⟨by decide, by decide⟩ ⟨by decide, by decide⟩ (Nat.le_of_ble_eq_true rfl) ?_
  refine n_if_ne (tgt := 41) M (by first | omega | exact hB _ _) dX3_pass_36 (by decide) (fun q36 => absurd rfl q36) (fun q36 => ?_)
  refine x_iconst (v := nI 0) M dX3_pass_39 (by decide +kernel) ?_
  exact x_iret M hr hlk dX3_pass_40 ⟨by decide, by decide⟩ rfl rfl
set_option maxRecDepth 20000 in
set_option maxHeartbeats 2000000 in
theorem m_pass2 (hO : Ok B) {n : Nat} (h1 : 1 ≤ n) (h2 : n ≤ 200) (ht0 : 10000 < B 0 1 + n) : x_Ret l D kc A yX3_pass cX3_pass 4 (some FieldType.int) rm_X3_pass [.ref (ad 6), .int (nI n)] (wl kc ad X (B) (th) ov (hw)) (some (.int (nI 0))) (wl kc ad X (B) (2) ov (hw)) := by
  refine x_ret_of RX3 (by decide +kernel) rfl [some (.ref (ad 6)), some (.int (nI n)), none, none] (Nat.le_of_ble_eq_true rfl) rfl rfl ?_
  intro p e s m args below meth c M hr hlk hnm TB hAA
  have hB : ∀ r i, B r i < 2 ^ 31 := fun r i => Nat.lt_trans (hO.bd r i) (by decide)
  have htt := hO.t
  refine x_aload0 M dX3_pass_0 ?_
  refine x_iload1 M dX3_pass_1 ?_
  refine x_iconst (v := nI 1) M dX3_pass_2 (by decide +kernel) ?_
  refine x_sipush (v := nI 200) M dX3_pass_3 (by decide +kernel) ?_
  refine x_callS0 M TB hAA mv_X3_isIn kw_472 dX3_pass_6 m_isIn rfl ⟨by decide, by decide⟩ ⟨by decide, by decide⟩ (Nat.le_of_ble_eq_true rfl) ?_
  refine b_if_ne (tgt := 16) M dX3_pass_9 (by decide) (fun q9 => ?_) (fun q9 => absurd ⟨nI_nlt h1 (by omega), nI_nlt h2 (by decide)⟩ q9)
  refine x_aload0 M dX3_pass_16 ?_
  refine gM1 M TB kw_416 dX3_pass_17 ?_
  refine x_iload1 M dX3_pass_20 ?_
  refine n_add M dX3_pass_21 ?_
  refine x_sipush (v := nI 10000) M dX3_pass_22 (by decide +kernel) ?_
  refine n_icmp_le (tgt := 32) M (by first | omega | exact hB _ _) (by first | omega | exact hB _ _) dX3_pass_25 (by decide) (fun q25 => absurd ht0 (by omega)) (fun q25 => ?_)
  refine x_iconst (v := nI 2) M dX3_pass_28 (by decide +kernel) ?_
  refine x_goto (tgt := 33) M dX3_pass_29 (by decide) ?_
  refine x_callV0 M TB hAA mv_X3_holds kw_475 dX3_pass_33 (m_holds1 (t := 2) (by decide) (by decide)) rfl wl_M rfl rfl ⟨by decide, by decide⟩ ⟨by decide, by decide⟩ (Nat.le_of_ble_eq_true rfl) ?_
  refine n_if_ne (tgt := 41) M (by first | omega | exact hB _ _) dX3_pass_36 (by decide) (fun q36 => absurd rfl q36) (fun q36 => ?_)
  refine x_iconst (v := nI 0) M dX3_pass_39 (by decide +kernel) ?_
  exact x_iret M hr hlk dX3_pass_40 ⟨by decide, by decide⟩ rfl rfl
end XM
end
section
/-! the reference's methods that the law calls -/
section XM
variable {l : Launch} {D : va_G} {kc : Nat → ClassId} {A : Nat → Prop} {ad : Nat → Nat} {X B : St} {th : Nat} {ov : Int64} {hw : Nat}
theorem gets_8 (S : St) (i : Nat) : gets S i 8 i = S 0 2 + 1 := by
  unfold gets
  rw [up_r _ (by decide), up_s]
theorem Bd_gets {S : St} (h : Bd S) (hm : S 0 2 + 1 < 2 ^ 30) (i : Nat) : Bd (gets S i) := Bd_up (Bd_up (Bd_up h hm) hm) (h 0 1)
theorem mv_X3_price : x_MV yX3_price cX3_price 2 (some FieldType.int) 1 := ⟨kw_486, kw_21, ⟨by decide +kernel, by decide +kernel⟩, by decide +kernel, kw_484, kw_485⟩
abbrev rm_X3_price : Room := { frames := 2, cells := 0, slots := 0, locals := 42 }
set_option maxRecDepth 20000 in
set_option maxHeartbeats 2000000 in
theorem m_price (hO : Ok B) {j : Nat} (hj : j < 12) : x_Ret l D kc A yX3_price cX3_price 2 (some FieldType.int) rm_X3_price [.ref (ad 6), .int (nI j)] (wl kc ad X (B) (th) ov (hw)) (some (.int (nI (B 1 j)))) (wl kc ad X (B) (0) ov (hw)) := by
  refine x_ret_of RX3 (by decide +kernel) rfl [some (.ref (ad 6)), some (.int (nI j))] (Nat.le_of_ble_eq_true rfl) rfl rfl ?_
  intro p e s m args below meth c M hr hlk hnm TB hAA
  refine x_aload0 M dX3_price_0 ?_
  refine x_iload1 M dX3_price_1 ?_
  refine x_callS0 M TB hAA mv_X3_isWare kw_469 dX3_price_2 (m_isWare1 hj) rfl ⟨by decide, by decide⟩ ⟨by decide, by decide⟩ (Nat.le_of_ble_eq_true rfl) ?_
  refine n_if_eq (tgt := 12) M (by first | omega | exact hB _ _) dX3_price_5 (by decide) (fun q5 => absurd q5 (by decide)) (fun q5 => ?_)
  refine x_iconst (v := nI 0) M dX3_price_8 (by decide +kernel) ?_
  refine x_goto (tgt := 13) M dX3_price_9 (by decide) ?_
  refine x_callV0 M TB hAA mv_X3_holds kw_475 dX3_price_13 m_holds0 rfl wl_M rfl rfl ⟨by decide, by decide⟩ ⟨by decide, by decide⟩ (Nat.le_of_ble_eq_true rfl) ?_
  refine n_if_eq (tgt := 28) M (by first | omega | exact hB _ _) dX3_price_16 (by decide) (fun q16 => absurd q16 (by decide)) (fun q16 => ?_)
  refine x_aload0 M dX3_price_19 ?_
  refine gM3 M TB kw_418 dX3_price_20 ?_
  refine x_iload1 M dX3_price_23 ?_
  refine aM1 M TB (by omega) dX3_price_24 ?_
  refine x_goto (tgt := 29) M dX3_price_25 (by decide) ?_
  exact x_iret M hr hlk dX3_price_29 ⟨by decide, by decide⟩ rfl rfl
set_option maxRecDepth 20000 in
set_option maxHeartbeats 2000000 in
theorem m_price1 {x : Int32} (h : bad 12 x) : x_Ret l D kc A yX3_price cX3_price 2 (some FieldType.int) rm_X3_price [.ref (ad 6), .int x] (wl kc ad X (B) (th) ov (hw)) (some (.int (nI 0))) (wl kc ad X (B) (1) ov (hw)) := by
  refine x_ret_of RX3 (by decide +kernel) rfl [some (.ref (ad 6)), some (.int x)] (Nat.le_of_ble_eq_true rfl) rfl rfl ?_
  intro p e s m args below meth c M hr hlk hnm TB hAA
  refine x_aload0 M dX3_price_0 ?_
  refine x_iload1 M dX3_price_1 ?_
  refine x_callS0 M TB hAA mv_X3_isWare kw_469 dX3_price_2 (m_isWare0 h) rfl ⟨by decide, by decide⟩ ⟨by decide, by decide⟩ (Nat.le_of_ble_eq_true rfl) ?_
  refine n_if_eq (tgt := 12) M (by first | omega | exact hB _ _) dX3_price_5 (by decide) (fun q5 => ?_) (fun q5 => absurd rfl q5)
  refine x_iconst (v := nI 1) M dX3_price_12 (by decide +kernel) ?_
  refine x_callV0 M TB hAA mv_X3_holds kw_475 dX3_price_13 (m_holds1 (t := 1) (by decide) (by decide)) rfl wl_M rfl rfl ⟨by decide, by decide⟩ ⟨by decide, by decide⟩ (Nat.le_of_ble_eq_true rfl) ?_
  refine n_if_eq (tgt := 28) M (by first | omega | exact hB _ _) dX3_price_16 (by decide) (fun q16 => ?_) (fun q16 => absurd rfl q16)
  refine x_iconst (v := nI 0) M dX3_price_28 (by decide +kernel) ?_
  exact x_iret M hr hlk dX3_price_29 ⟨by decide, by decide⟩ rfl rfl
theorem mv_X3_hang : x_MV yX3_hang cX3_hang 3 (some FieldType.int) 1 := ⟨kw_490, kw_21, ⟨by decide +kernel, by decide +kernel⟩, by decide +kernel, kw_488, kw_489⟩
abbrev rm_X3_hang : Room := { frames := 2, cells := 0, slots := 0, locals := 42 }
set_option maxRecDepth 20000 in
set_option maxHeartbeats 2000000 in
theorem m_hang (hO : Ok B) (hn : B 0 0 < 12) (h5 : B 5 (B 0 0) = 1000) {j : Nat} (hj : j < 12) : x_Ret l D kc A yX3_hang cX3_hang 3 (some FieldType.int) rm_X3_hang [.ref (ad 6), .int (nI j)] (wl kc ad X (B) (th) ov (B 0 0)) (some (.int (nI (B 0 0)))) (wl kc ad X (hng B j) (0) ov (B 0 0 + 1)) := by
  refine x_ret_of RX3 (by decide +kernel) rfl [some (.ref (ad 6)), some (.int (nI j)), none] (Nat.le_of_ble_eq_true rfl) rfl rfl ?_
  intro p e s m args below meth c M hr hlk hnm TB hAA
  have hB : ∀ r i, B r i < 2 ^ 31 := fun r i => Nat.lt_trans (hO.bd r i) (by decide)
  refine x_iload1 M dX3_hang_0 ?_
  refine x_callS0 M TB hAA mv_X3_isWare kw_469 dX3_hang_1 (m_isWare1 hj) rfl ⟨by decide, by decide⟩ ⟨by decide, by decide⟩ (Nat.le_of_ble_eq_true rfl) ?_
  refine x_istore2 M dX3_hang_4 ?_
  refine x_aload0 M dX3_hang_5 ?_
  refine x_iload2 M dX3_hang_6 ?_
  refine n_if_ne (tgt := 14) M (by first | omega | exact hB _ _) dX3_hang_7 (by decide) (fun q7 => ?_) (fun q7 => absurd q7 (by decide))
  refine x_aload0 M dX3_hang_14 ?_
  refine gM4 M TB kw_419 dX3_hang_15 ?_
  refine x_bipush (v := nI 12) M dX3_hang_18 (by decide +kernel) ?_
  refine n_icmp_ne (tgt := 27) M (by first | omega | exact hB _ _) (by first | omega | exact hB _ _) dX3_hang_20 (by decide) (fun q20 => ?_) (fun q20 => absurd hn (by omega))
  refine x_iconst (v := nI 0) M dX3_hang_27 (by decide +kernel) ?_
  refine x_callV0 M TB hAA mv_X3_holds kw_475 dX3_hang_28 m_holds0 rfl wl_M rfl rfl ⟨by decide, by decide⟩ ⟨by decide, by decide⟩ (Nat.le_of_ble_eq_true rfl) ?_
  refine n_if_ne (tgt := 36) M (by first | omega | exact hB _ _) dX3_hang_31 (by decide) (fun q31 => ?_) (fun q31 => absurd q31 (by decide))
  refine x_aload0 M dX3_hang_36 ?_
  refine gM5 M TB kw_420 dX3_hang_37 ?_
  refine x_aload0 M dX3_hang_40 ?_
  refine gM4 M TB kw_419 dX3_hang_41 ?_
  refine x_iload1 M dX3_hang_44 ?_
  refine sM2 (j := B 0 0) M TB hn dX3_hang_45 ?_
  refine x_aload0 M dX3_hang_46 ?_
  refine gM6 M TB kw_421 dX3_hang_47 ?_
  refine x_aload0 M dX3_hang_50 ?_
  refine gM4 M TB kw_419 dX3_hang_51 ?_
  refine x_aload0 M dX3_hang_54 ?_
  refine gM3 M TB kw_418 dX3_hang_55 ?_
  refine x_iload1 M dX3_hang_58 ?_
  refine aM1 M TB (by omega) dX3_hang_59 ?_
  refine sM3 (j := B 0 0) M TB hn dX3_hang_60 ?_
  refine x_aload0 M dX3_hang_61 ?_
  refine gM8 M TB kw_423 dX3_hang_62 ?_
  refine x_aload0 M dX3_hang_65 ?_
  refine gM4 M TB kw_419 dX3_hang_66 ?_
  refine x_sipush (v := nI 1000) M dX3_hang_69 (by decide +kernel) ?_
  refine sM5n (v := 1000) M TB hn h5 dX3_hang_72 ?_
  refine x_aload0 M dX3_hang_73 ?_
  refine x_dup M dX3_hang_74 rfl ?_
  refine gM4 M TB kw_419 dX3_hang_75 ?_
  refine x_iconst (v := nI 1) M dX3_hang_78 (by decide +kernel) ?_
  refine n_add M dX3_hang_79 ?_
  refine pM4 M TB kw_419 dX3_hang_80 ?_
  refine x_aload0 M dX3_hang_83 ?_
  refine gM4 M TB kw_419 dX3_hang_84 ?_
  refine x_iconst (v := nI 1) M dX3_hang_87 (by decide +kernel) ?_
  refine n_sub (a := B 0 0 + 1) M (by omega) dX3_hang_88 ?_
  exact x_iret M hr hlk dX3_hang_89 ⟨by decide, by decide⟩ (by rw [Nat.add_sub_cancel]) rfl
set_option maxRecDepth 20000 in
set_option maxHeartbeats 2000000 in
theorem m_hang1 {x : Int32} (h : bad 12 x) : x_Ret l D kc A yX3_hang cX3_hang 3 (some FieldType.int) rm_X3_hang [.ref (ad 6), .int x] (wl kc ad X (B) (th) ov (hw)) (some (.int (nI 0))) (wl kc ad X (B) (1) ov (hw)) := by
  refine x_ret_of RX3 (by decide +kernel) rfl [some (.ref (ad 6)), some (.int x), none] (Nat.le_of_ble_eq_true rfl) rfl rfl ?_
  intro p e s m args below meth c M hr hlk hnm TB hAA
  refine x_iload1 M dX3_hang_0 ?_
  refine x_callS0 M TB hAA mv_X3_isWare kw_469 dX3_hang_1 (m_isWare0 h) rfl ⟨by decide, by decide⟩ ⟨by decide, by decide⟩ (Nat.le_of_ble_eq_true rfl) ?_
  refine x_istore2 M dX3_hang_4 ?_
  refine x_aload0 M dX3_hang_5 ?_
  refine x_iload2 M dX3_hang_6 ?_
  refine n_if_ne (tgt := 14) M (by first | omega | exact hB _ _) dX3_hang_7 (by decide) (fun q7 => absurd rfl q7) (fun q7 => ?_)
  refine x_iconst (v := nI 1) M dX3_hang_10 (by decide +kernel) ?_
  refine x_goto (tgt := 28) M dX3_hang_11 (by decide) ?_
  refine x_callV0 M TB hAA mv_X3_holds kw_475 dX3_hang_28 (m_holds1 (t := 1) (by decide) (by decide)) rfl wl_M rfl rfl ⟨by decide, by decide⟩ ⟨by decide, by decide⟩ (Nat.le_of_ble_eq_true rfl) ?_
  refine n_if_ne (tgt := 36) M (by first | omega | exact hB _ _) dX3_hang_31 (by decide) (fun q31 => absurd rfl q31) (fun q31 => ?_)
  refine x_iconst (v := nI 0) M dX3_hang_34 (by decide +kernel) ?_
  exact x_iret M hr hlk dX3_hang_35 ⟨by decide, by decide⟩ rfl rfl
set_option maxRecDepth 20000 in
set_option maxHeartbeats 2000000 in
theorem m_hang2 (hO : Ok B) (hn : 12 ≤ B 0 0) {j : Nat} (hj : j < 12) : x_Ret l D kc A yX3_hang cX3_hang 3 (some FieldType.int) rm_X3_hang [.ref (ad 6), .int (nI j)] (wl kc ad X (B) (th) ov (hw)) (some (.int (nI 0))) (wl kc ad X (B) (2) ov (hw)) := by
  refine x_ret_of RX3 (by decide +kernel) rfl [some (.ref (ad 6)), some (.int (nI j)), none] (Nat.le_of_ble_eq_true rfl) rfl rfl ?_
  intro p e s m args below meth c M hr hlk hnm TB hAA
  have hB : ∀ r i, B r i < 2 ^ 31 := fun r i => Nat.lt_trans (hO.bd r i) (by decide)
  have hn2 := hO.n
  refine x_iload1 M dX3_hang_0 ?_
  refine x_callS0 M TB hAA mv_X3_isWare kw_469 dX3_hang_1 (m_isWare1 hj) rfl ⟨by decide, by decide⟩ ⟨by decide, by decide⟩ (Nat.le_of_ble_eq_true rfl) ?_
  refine x_istore2 M dX3_hang_4 ?_
  refine x_aload0 M dX3_hang_5 ?_
  refine x_iload2 M dX3_hang_6 ?_
  refine n_if_ne (tgt := 14) M (by first | omega | exact hB _ _) dX3_hang_7 (by decide) (fun q7 => ?_) (fun q7 => absurd q7 (by decide))
  refine x_aload0 M dX3_hang_14 ?_
  refine gM4 M TB kw_419 dX3_hang_15 ?_
  refine x_bipush (v := nI 12) M dX3_hang_18 (by decide +kernel) ?_
  refine n_icmp_ne (tgt := 27) M (by first | omega | exact hB _ _) (by first | omega | exact hB _ _) dX3_hang_20 (by decide) (fun q20 => absurd hn (by omega)) (fun q20 => ?_)
  refine x_iconst (v := nI 2) M dX3_hang_23 (by decide +kernel) ?_
  refine x_goto (tgt := 28) M dX3_hang_24 (by decide) ?_
  refine x_callV0 M TB hAA mv_X3_holds kw_475 dX3_hang_28 (m_holds1 (t := 2) (by decide) (by decide)) rfl wl_M rfl rfl ⟨by decide, by decide⟩ ⟨by decide, by decide⟩ (Nat.le_of_ble_eq_true rfl) ?_
  refine n_if_ne (tgt := 36) M (by first | omega | exact hB _ _) dX3_hang_31 (by decide) (fun q31 => absurd rfl q31) (fun q31 => ?_)
  refine x_iconst (v := nI 0) M dX3_hang_34 (by decide +kernel) ?_
  exact x_iret M hr hlk dX3_hang_35 ⟨by decide, by decide⟩ rfl rfl
theorem mv_X3_carry : x_MV yX3_carry cX3_carry 4 (some FieldType.boolean) 2 := ⟨kw_494, kw_21, ⟨by decide +kernel, by decide +kernel⟩, by decide +kernel, kw_492, kw_493⟩
abbrev rm_X3_carry : Room := { frames := 2, cells := 0, slots := 0, locals := 43 }
set_option maxRecDepth 20000 in
set_option maxHeartbeats 2000000 in
theorem m_carry (hO : Ok B) {j : Nat} (hj : j < B 0 0) (hm : B 0 2 + 1 < 2 ^ 30) {w : Nat} (hw12 : w < 12) (hne : B 2 j ≠ w) : x_Ret l D kc A yX3_carry cX3_carry 4 (some FieldType.boolean) rm_X3_carry [.ref (ad 6), .int (nI j), .int (nI w)] (wl kc ad X (B) (th) ov (hw)) (some (.int (if ¬ B 3 j = B 1 w then 1 else 0 : Int32))) (wl kc ad X (car B j w) (0) ov (hw)) := by
  refine x_ret_of RX3 (by decide +kernel) rfl [some (.ref (ad 6)), some (.int (nI j)), some (.int (nI w)), none] (Nat.le_of_ble_eq_true rfl) rfl rfl ?_
  intro p e s m args below meth c M hr hlk hnm TB hAA
  have hB : ∀ r i, B r i < 2 ^ 31 := fun r i => Nat.lt_trans (hO.bd r i) (by decide)
  have hn := hO.n
  have hZ : Bd (up (up B 2 j w) 8 j 0) := Bd_up (Bd_up hO.bd (by omega)) (by omega)
  have hG : Bd (gets (up (up B 2 j w) 8 j 0) j) := Bd_gets hZ hm j
  refine x_aload0 M dX3_carry_0 ?_
  refine x_iload1 M dX3_carry_1 ?_
  refine x_callV0 M TB hAA mv_X3_isLabel kw_495 dX3_carry_2 (m_isLabel1 hO hj) rfl wl_M rfl rfl ⟨by decide, by decide⟩ ⟨by decide, by decide⟩ (Nat.le_of_ble_eq_true rfl) ?_
  refine n_if_eq (tgt := 19) M (by first | omega | exact hB _ _) dX3_carry_5 (by decide) (fun q5 => absurd q5 (by decide)) (fun q5 => ?_)
  refine x_iload2 M dX3_carry_8 ?_
  refine x_callS0 M TB hAA mv_X3_isWare kw_469 dX3_carry_9 (m_isWare1 hw12) rfl ⟨by decide, by decide⟩ ⟨by decide, by decide⟩ (Nat.le_of_ble_eq_true rfl) ?_
  refine n_if_eq (tgt := 19) M (by first | omega | exact hB _ _) dX3_carry_12 (by decide) (fun q12 => absurd q12 (by decide)) (fun q12 => ?_)
  refine x_iconst (v := nI 1) M dX3_carry_15 (by decide +kernel) ?_
  refine x_goto (tgt := 20) M dX3_carry_16 (by decide) ?_
  refine x_istore3 M dX3_carry_20 ?_
  refine x_aload0 M dX3_carry_21 ?_
  refine x_iload3 M dX3_carry_22 ?_
  refine n_if_ne (tgt := 30) M (by first | omega | exact hB _ _) dX3_carry_23 (by decide) (fun q23 => ?_) (fun q23 => absurd q23 (by decide))
  refine x_aload0 M dX3_carry_30 ?_
  refine gM5 M TB kw_420 dX3_carry_31 ?_
  refine x_iload1 M dX3_carry_34 ?_
  refine aM2 M TB (by omega) dX3_carry_35 ?_
  refine x_iload2 M dX3_carry_36 ?_
  refine n_icmp_ne (tgt := 44) M (by first | omega | exact hB _ _) (by first | omega | exact hB _ _) dX3_carry_37 (by decide) (fun q37 => ?_) (fun q37 => absurd q37 hne)
  refine x_iconst (v := nI 0) M dX3_carry_44 (by decide +kernel) ?_
  refine x_callV0 M TB hAA mv_X3_holds kw_475 dX3_carry_45 m_holds0 rfl wl_M rfl rfl ⟨by decide, by decide⟩ ⟨by decide, by decide⟩ (Nat.le_of_ble_eq_true rfl) ?_
  refine n_if_ne (tgt := 53) M (by first | omega | exact hB _ _) dX3_carry_48 (by decide) (fun q48 => ?_) (fun q48 => absurd q48 (by decide))
  refine x_aload0 M dX3_carry_53 ?_
  refine gM5 M TB kw_420 dX3_carry_54 ?_
  refine x_iload1 M dX3_carry_57 ?_
  refine x_iload2 M dX3_carry_58 ?_
  refine sM2 M TB (by omega) dX3_carry_59 ?_
  refine x_aload0 M dX3_carry_60 ?_
  refine gM11 M TB kw_426 dX3_carry_61 ?_
  refine x_iload1 M dX3_carry_64 ?_
  refine x_iconst (v := nI 0) M dX3_carry_65 (by decide +kernel) ?_
  refine sM8 M TB (by omega) dX3_carry_66 ?_
  refine x_aload0 M dX3_carry_67 ?_
  refine gM6 M TB kw_421 dX3_carry_68 ?_
  refine x_iload1 M dX3_carry_71 ?_
  refine aM3 M TB (by omega) dX3_carry_72 ?_
  refine x_aload0 M dX3_carry_73 ?_
  refine gM3 M TB kw_418 dX3_carry_74 ?_
  refine x_iload2 M dX3_carry_77 ?_
  refine aM1 M TB (by omega) dX3_carry_78 ?_
  refine n_icmp_eq (tgt := 87) M (by first | omega | exact hB _ _) (by first | omega | exact hB _ _) dX3_carry_79 (by decide) (fun q79 => ?_) (fun q79 => ?_)
  · refine x_aload0 M dX3_carry_87 ?_
    refine gM11 M TB kw_426 dX3_carry_88 ?_
    refine x_iload1 M dX3_carry_91 ?_
    refine aM8 M TB (by omega) dX3_carry_92 ?_
    refine n_if_le (tgt := 100) M (by first | exact Nat.lt_trans (hZ _ _) (by decide) | exact Nat.lt_trans (hG _ _) (by decide)) dX3_carry_93 (by decide) (fun q93 => ?_) (fun q93 => absurd q93 (by rw [up_s]; omega))
    refine x_iconst (v := nI 0) M dX3_carry_100 (by decide +kernel) ?_
    exact x_zret M hr hlk dX3_carry_101 ⟨by decide, by decide⟩ (Or.inl rfl) (by rw [if_neg (fun h : ¬ B 3 j = B 1 w => h q79)]; rfl) (by rw [car, if_pos (show B 3 j = B 1 w from q79)])
  · refine x_aload0 M dX3_carry_82 ?_
    refine x_iload1 M dX3_carry_83 ?_
    refine x_callV0 M TB hAA mv_X3_gets kw_479 dX3_carry_84 (m_gets (B := (up (up B 2 j w) 8 j 0)) hZ (i := j) (by omega)) rfl wl_M rfl rfl ⟨by decide, by decide⟩ ⟨by decide, by decide⟩ (Nat.le_of_ble_eq_true rfl) ?_
    refine x_aload0 M dX3_carry_87 ?_
    refine gM11 M TB kw_426 dX3_carry_88 ?_
    refine x_iload1 M dX3_carry_91 ?_
    refine aM8 M TB (by omega) dX3_carry_92 ?_
    refine n_if_le (tgt := 100) M (by first | exact Nat.lt_trans (hZ _ _) (by decide) | exact Nat.lt_trans (hG _ _) (by decide)) dX3_carry_93 (by decide) (fun q93 => absurd q93 (by rw [gets_8]; omega)) (fun q93 => ?_)
    refine x_iconst (v := nI 1) M dX3_carry_96 (by decide +kernel) ?_
    refine x_goto (tgt := 101) M dX3_carry_97 (by decide) ?_
    exact x_zret M hr hlk dX3_carry_101 ⟨by decide, by decide⟩ (Or.inr rfl) (by rw [if_pos (show ¬ B 3 j = B 1 w from q79)]; rfl) (by rw [car, if_neg (show ¬ B 3 j = B 1 w from q79)])
set_option maxRecDepth 20000 in
set_option maxHeartbeats 2000000 in
theorem m_carry1 (hO : Ok B) {x x2 : Int32} (h : bad (B 0 0) x) : x_Ret l D kc A yX3_carry cX3_carry 4 (some FieldType.boolean) rm_X3_carry [.ref (ad 6), .int x, .int x2] (wl kc ad X (B) (th) ov (hw)) (some (.int (nI 0))) (wl kc ad X (B) (1) ov (hw)) := by
  refine x_ret_of RX3 (by decide +kernel) rfl [some (.ref (ad 6)), some (.int x), some (.int x2), none] (Nat.le_of_ble_eq_true rfl) rfl rfl ?_
  intro p e s m args below meth c M hr hlk hnm TB hAA
  have hB : ∀ r i, B r i < 2 ^ 31 := fun r i => Nat.lt_trans (hO.bd r i) (by decide)
  refine x_aload0 M dX3_carry_0 ?_
  refine x_iload1 M dX3_carry_1 ?_
  refine x_callV0 M TB hAA mv_X3_isLabel kw_495 dX3_carry_2 (m_isLabel0 hO h) rfl wl_M rfl rfl ⟨by decide, by decide⟩ ⟨by decide, by decide⟩ (Nat.le_of_ble_eq_true rfl) ?_
  refine n_if_eq (tgt := 19) M (by first | omega | exact hB _ _) dX3_carry_5 (by decide) (fun q5 => ?_) (fun q5 => absurd rfl q5)
  refine x_iconst (v := nI 0) M dX3_carry_19 (by decide +kernel) ?_
  refine x_istore3 M dX3_carry_20 ?_
  refine x_aload0 M dX3_carry_21 ?_
  refine x_iload3 M dX3_carry_22 ?_
  refine n_if_ne (tgt := 30) M (by first | omega | exact hB _ _) dX3_carry_23 (by decide) (fun q23 => absurd rfl q23) (fun q23 => ?_)
  refine x_iconst (v := nI 1) M dX3_carry_26 (by decide +kernel) ?_
  refine x_goto (tgt := 45) M dX3_carry_27 (by decide) ?_
  refine x_callV0 M TB hAA mv_X3_holds kw_475 dX3_carry_45 (m_holds1 (t := 1) (by decide) (by decide)) rfl wl_M rfl rfl ⟨by decide, by decide⟩ ⟨by decide, by decide⟩ (Nat.le_of_ble_eq_true rfl) ?_
  refine n_if_ne (tgt := 53) M (by first | omega | exact hB _ _) dX3_carry_48 (by decide) (fun q48 => absurd rfl q48) (fun q48 => ?_)
  refine x_iconst (v := nI 0) M dX3_carry_51 (by decide +kernel) ?_
  exact x_zret M hr hlk dX3_carry_52 ⟨by decide, by decide⟩ (Or.inl rfl) rfl rfl
set_option maxRecDepth 20000 in
set_option maxHeartbeats 2000000 in
theorem m_carry2 (hO : Ok B) {j : Nat} (hj : j < B 0 0) {x2 : Int32} (h : bad 12 x2) : x_Ret l D kc A yX3_carry cX3_carry 4 (some FieldType.boolean) rm_X3_carry [.ref (ad 6), .int (nI j), .int x2] (wl kc ad X (B) (th) ov (hw)) (some (.int (nI 0))) (wl kc ad X (B) (1) ov (hw)) := by
  refine x_ret_of RX3 (by decide +kernel) rfl [some (.ref (ad 6)), some (.int (nI j)), some (.int x2), none] (Nat.le_of_ble_eq_true rfl) rfl rfl ?_
  intro p e s m args below meth c M hr hlk hnm TB hAA
  have hB : ∀ r i, B r i < 2 ^ 31 := fun r i => Nat.lt_trans (hO.bd r i) (by decide)
  refine x_aload0 M dX3_carry_0 ?_
  refine x_iload1 M dX3_carry_1 ?_
  refine x_callV0 M TB hAA mv_X3_isLabel kw_495 dX3_carry_2 (m_isLabel1 hO hj) rfl wl_M rfl rfl ⟨by decide, by decide⟩ ⟨by decide, by decide⟩ (Nat.le_of_ble_eq_true rfl) ?_
  refine n_if_eq (tgt := 19) M (by first | omega | exact hB _ _) dX3_carry_5 (by decide) (fun q5 => absurd q5 (by decide)) (fun q5 => ?_)
  refine x_iload2 M dX3_carry_8 ?_
  refine x_callS0 M TB hAA mv_X3_isWare kw_469 dX3_carry_9 (m_isWare0 h) rfl ⟨by decide, by decide⟩ ⟨by decide, by decide⟩ (Nat.le_of_ble_eq_true rfl) ?_
  refine n_if_eq (tgt := 19) M (by first | omega | exact hB _ _) dX3_carry_12 (by decide) (fun q12 => ?_) (fun q12 => absurd rfl q12)
  refine x_iconst (v := nI 0) M dX3_carry_19 (by decide +kernel) ?_
  refine x_istore3 M dX3_carry_20 ?_
  refine x_aload0 M dX3_carry_21 ?_
  refine x_iload3 M dX3_carry_22 ?_
  refine n_if_ne (tgt := 30) M (by first | omega | exact hB _ _) dX3_carry_23 (by decide) (fun q23 => absurd rfl q23) (fun q23 => ?_)
  refine x_iconst (v := nI 1) M dX3_carry_26 (by decide +kernel) ?_
  refine x_goto (tgt := 45) M dX3_carry_27 (by decide) ?_
  refine x_callV0 M TB hAA mv_X3_holds kw_475 dX3_carry_45 (m_holds1 (t := 1) (by decide) (by decide)) rfl wl_M rfl rfl ⟨by decide, by decide⟩ ⟨by decide, by decide⟩ (Nat.le_of_ble_eq_true rfl) ?_
  refine n_if_ne (tgt := 53) M (by first | omega | exact hB _ _) dX3_carry_48 (by decide) (fun q48 => absurd rfl q48) (fun q48 => ?_)
  refine x_iconst (v := nI 0) M dX3_carry_51 (by decide +kernel) ?_
  exact x_zret M hr hlk dX3_carry_52 ⟨by decide, by decide⟩ (Or.inl rfl) rfl rfl
set_option maxRecDepth 20000 in
set_option maxHeartbeats 2000000 in
theorem m_carry3 (hO : Ok B) {j : Nat} (hj : j < B 0 0) {w : Nat} (hw12 : w < 12) (he : B 2 j = w) : x_Ret l D kc A yX3_carry cX3_carry 4 (some FieldType.boolean) rm_X3_carry [.ref (ad 6), .int (nI j), .int (nI w)] (wl kc ad X (B) (th) ov (hw)) (some (.int (nI 0))) (wl kc ad X (B) (2) ov (hw)) := by
  refine x_ret_of RX3 (by decide +kernel) rfl [some (.ref (ad 6)), some (.int (nI j)), some (.int (nI w)), none] (Nat.le_of_ble_eq_true rfl) rfl rfl ?_
  intro p e s m args below meth c M hr hlk hnm TB hAA
  have hB : ∀ r i, B r i < 2 ^ 31 := fun r i => Nat.lt_trans (hO.bd r i) (by decide)
  have hn := hO.n
  refine x_aload0 M dX3_carry_0 ?_
  refine x_iload1 M dX3_carry_1 ?_
  refine x_callV0 M TB hAA mv_X3_isLabel kw_495 dX3_carry_2 (m_isLabel1 hO hj) rfl wl_M rfl rfl ⟨by decide, by decide⟩ ⟨by decide, by decide⟩ (Nat.le_of_ble_eq_true rfl) ?_
  refine n_if_eq (tgt := 19) M (by first | omega | exact hB _ _) dX3_carry_5 (by decide) (fun q5 => absurd q5 (by decide)) (fun q5 => ?_)
  refine x_iload2 M dX3_carry_8 ?_
  refine x_callS0 M TB hAA mv_X3_isWare kw_469 dX3_carry_9 (m_isWare1 hw12) rfl ⟨by decide, by decide⟩ ⟨by decide, by decide⟩ (Nat.le_of_ble_eq_true rfl) ?_
  refine n_if_eq (tgt := 19) M (by first | omega | exact hB _ _) dX3_carry_12 (by decide) (fun q12 => absurd q12 (by decide)) (fun q12 => ?_)
  refine x_iconst (v := nI 1) M dX3_carry_15 (by decide +kernel) ?_
  refine x_goto (tgt := 20) M dX3_carry_16 (by decide) ?_
  refine x_istore3 M dX3_carry_20 ?_
  refine x_aload0 M dX3_carry_21 ?_
  refine x_iload3 M dX3_carry_22 ?_
  refine n_if_ne (tgt := 30) M (by first | omega | exact hB _ _) dX3_carry_23 (by decide) (fun q23 => ?_) (fun q23 => absurd q23 (by decide))
  refine x_aload0 M dX3_carry_30 ?_
  refine gM5 M TB kw_420 dX3_carry_31 ?_
  refine x_iload1 M dX3_carry_34 ?_
  refine aM2 M TB (by omega) dX3_carry_35 ?_
  refine x_iload2 M dX3_carry_36 ?_
  refine n_icmp_ne (tgt := 44) M (by first | omega | exact hB _ _) (by first | omega | exact hB _ _) dX3_carry_37 (by decide) (fun q37 => absurd he q37) (fun q37 => ?_)
  refine x_iconst (v := nI 2) M dX3_carry_40 (by decide +kernel) ?_
  refine x_goto (tgt := 45) M dX3_carry_41 (by decide) ?_
  refine x_callV0 M TB hAA mv_X3_holds kw_475 dX3_carry_45 (m_holds1 (t := 2) (by decide) (by decide)) rfl wl_M rfl rfl ⟨by decide, by decide⟩ ⟨by decide, by decide⟩ (Nat.le_of_ble_eq_true rfl) ?_
  refine n_if_ne (tgt := 53) M (by first | omega | exact hB _ _) dX3_carry_48 (by decide) (fun q48 => absurd rfl q48) (fun q48 => ?_)
  refine x_iconst (v := nI 0) M dX3_carry_51 (by decide +kernel) ?_
  exact x_zret M hr hlk dX3_carry_52 ⟨by decide, by decide⟩ (Or.inl rfl) rfl rfl
theorem mv_X3_charge : x_MV yX3_charge cX3_charge 3 (some FieldType.int) 1 := ⟨kw_502, kw_21, ⟨by decide +kernel, by decide +kernel⟩, by decide +kernel, kw_500, kw_501⟩
abbrev rm_X3_charge : Room := { frames := 2, cells := 0, slots := 0, locals := 43 }
set_option maxRecDepth 20000 in
set_option maxHeartbeats 2000000 in
theorem m_charge (hO : Ok B) {j : Nat} (hj : j < B 0 0) (hh : B 0 0 ≤ hw) : x_Ret l D kc A yX3_charge cX3_charge 3 (some FieldType.int) rm_X3_charge [.ref (ad 6), .int (nI j)] (wl kc ad X (B) (th) ov (hw)) (some (.int (nI (B 5 j)))) (wl kc ad X (up B 5 j 1000) (0) ov (hw)) := by
  refine x_ret_of RX3 (by decide +kernel) rfl [some (.ref (ad 6)), some (.int (nI j)), none] (Nat.le_of_ble_eq_true rfl) rfl rfl ?_
  intro p e s m args below meth c M hr hlk hnm TB hAA
  have hB : ∀ r i, B r i < 2 ^ 31 := fun r i => Nat.lt_trans (hO.bd r i) (by decide)
  have hn := hO.n
  refine x_aload0 M dX3_charge_0 ?_
  refine x_aload0 M dX3_charge_1 ?_
  refine x_iload1 M dX3_charge_2 ?_
  refine x_callV0 M TB hAA mv_X3_isLabel kw_495 dX3_charge_3 (m_isLabel1 hO hj) rfl wl_M rfl rfl ⟨by decide, by decide⟩ ⟨by decide, by decide⟩ (Nat.le_of_ble_eq_true rfl) ?_
  refine n_if_eq (tgt := 13) M (by first | omega | exact hB _ _) dX3_charge_6 (by decide) (fun q6 => absurd q6 (by decide)) (fun q6 => ?_)
  refine x_iconst (v := nI 0) M dX3_charge_9 (by decide +kernel) ?_
  refine x_goto (tgt := 14) M dX3_charge_10 (by decide) ?_
  refine x_callV0 M TB hAA mv_X3_holds kw_475 dX3_charge_14 m_holds0 rfl wl_M rfl rfl ⟨by decide, by decide⟩ ⟨by decide, by decide⟩ (Nat.le_of_ble_eq_true rfl) ?_
  refine n_if_ne (tgt := 22) M (by first | omega | exact hB _ _) dX3_charge_17 (by decide) (fun q17 => ?_) (fun q17 => absurd q17 (by decide))
  refine x_aload0 M dX3_charge_22 ?_
  refine gM8 M TB kw_423 dX3_charge_23 ?_
  refine x_iload1 M dX3_charge_26 ?_
  refine aM5 M TB (by omega) (by omega) dX3_charge_27 ?_
  refine x_istore2 M dX3_charge_28 ?_
  refine x_aload0 M dX3_charge_29 ?_
  refine gM8 M TB kw_423 dX3_charge_30 ?_
  refine x_iload1 M dX3_charge_33 ?_
  refine x_sipush (v := nI 1000) M dX3_charge_34 (by decide +kernel) ?_
  refine sM5 M TB (by omega) (by omega) dX3_charge_37 ?_
  refine x_iload2 M dX3_charge_38 ?_
  exact x_iret M hr hlk dX3_charge_39 ⟨by decide, by decide⟩ rfl rfl
set_option maxRecDepth 20000 in
set_option maxHeartbeats 2000000 in
theorem m_charge1 (hO : Ok B) {x : Int32} (h : bad (B 0 0) x) : x_Ret l D kc A yX3_charge cX3_charge 3 (some FieldType.int) rm_X3_charge [.ref (ad 6), .int x] (wl kc ad X (B) (th) ov (hw)) (some (.int (nI 0))) (wl kc ad X (B) (1) ov (hw)) := by
  refine x_ret_of RX3 (by decide +kernel) rfl [some (.ref (ad 6)), some (.int x), none] (Nat.le_of_ble_eq_true rfl) rfl rfl ?_
  intro p e s m args below meth c M hr hlk hnm TB hAA
  have hB : ∀ r i, B r i < 2 ^ 31 := fun r i => Nat.lt_trans (hO.bd r i) (by decide)
  refine x_aload0 M dX3_charge_0 ?_
  refine x_aload0 M dX3_charge_1 ?_
  refine x_iload1 M dX3_charge_2 ?_
  refine x_callV0 M TB hAA mv_X3_isLabel kw_495 dX3_charge_3 (m_isLabel0 hO h) rfl wl_M rfl rfl ⟨by decide, by decide⟩ ⟨by decide, by decide⟩ (Nat.le_of_ble_eq_true rfl) ?_
  refine n_if_eq (tgt := 13) M (by first | omega | exact hB _ _) dX3_charge_6 (by decide) (fun q6 => ?_) (fun q6 => absurd rfl q6)
  refine x_iconst (v := nI 1) M dX3_charge_13 (by decide +kernel) ?_
  refine x_callV0 M TB hAA mv_X3_holds kw_475 dX3_charge_14 (m_holds1 (t := 1) (by decide) (by decide)) rfl wl_M rfl rfl ⟨by decide, by decide⟩ ⟨by decide, by decide⟩ (Nat.le_of_ble_eq_true rfl) ?_
  refine n_if_ne (tgt := 22) M (by first | omega | exact hB _ _) dX3_charge_17 (by decide) (fun q17 => absurd rfl q17) (fun q17 => ?_)
  refine x_iconst (v := nI 0) M dX3_charge_20 (by decide +kernel) ?_
  exact x_iret M hr hlk dX3_charge_21 ⟨by decide, by decide⟩ rfl rfl
theorem mv_X3_loseSendings : x_MV yX3_loseSendings cX3_loseSendings 4 (some FieldType.int) 2 := ⟨kw_506, kw_21, ⟨by decide +kernel, by decide +kernel⟩, by decide +kernel, kw_504, kw_505⟩
abbrev rm_X3_loseSendings : Room := { frames := 2, cells := 0, slots := 0, locals := 43 }
set_option maxRecDepth 20000 in
set_option maxHeartbeats 2000000 in
theorem m_loseSendings (hO : Ok B) {j : Nat} (hj : j < B 0 0) {v : Nat} (hv : v ≤ 20) : x_Ret l D kc A yX3_loseSendings cX3_loseSendings 4 (some FieldType.int) rm_X3_loseSendings [.ref (ad 6), .int (nI j), .int (nI v)] (wl kc ad X (B) (th) ov (hw)) (some (.int (nI (B 6 j)))) (wl kc ad X (up B 6 j v) (0) ov (hw)) := by
  refine x_ret_of RX3 (by decide +kernel) rfl [some (.ref (ad 6)), some (.int (nI j)), some (.int (nI v)), none] (Nat.le_of_ble_eq_true rfl) rfl rfl ?_
  intro p e s m args below meth c M hr hlk hnm TB hAA
  have hB : ∀ r i, B r i < 2 ^ 31 := fun r i => Nat.lt_trans (hO.bd r i) (by decide)
  have hn := hO.n
  refine x_aload0 M dX3_loseSendings_0 ?_
  refine x_aload0 M dX3_loseSendings_1 ?_
  refine x_iload1 M dX3_loseSendings_2 ?_
  refine x_callV0 M TB hAA mv_X3_isLabel kw_495 dX3_loseSendings_3 (m_isLabel1 hO hj) rfl wl_M rfl rfl ⟨by decide, by decide⟩ ⟨by decide, by decide⟩ (Nat.le_of_ble_eq_true rfl) ?_
  refine n_if_ne (tgt := 13) M (by first | omega | exact hB _ _) dX3_loseSendings_6 (by decide) (fun q6 => ?_) (fun q6 => absurd q6 (by decide))
  refine x_iload2 M dX3_loseSendings_13 ?_
  refine x_iconst (v := nI 0) M dX3_loseSendings_14 (by decide +kernel) ?_
  refine x_bipush (v := nI 20) M dX3_loseSendings_15 (by decide +kernel) ?_
  refine x_callS0 M TB hAA mv_X3_isIn kw_472 dX3_loseSendings_17 m_isIn rfl ⟨by decide, by decide⟩ ⟨by decide, by decide⟩ (Nat.le_of_ble_eq_true rfl) ?_
  refine b_if_eq (tgt := 27) M dX3_loseSendings_20 (by decide) (fun q20 => absurd ⟨nI_nlt (Nat.zero_le _) (by omega), nI_nlt hv (by decide)⟩ q20) (fun q20 => ?_)
  refine x_iconst (v := nI 0) M dX3_loseSendings_23 (by decide +kernel) ?_
  refine x_goto (tgt := 28) M dX3_loseSendings_24 (by decide) ?_
  refine x_callV0 M TB hAA mv_X3_holds kw_475 dX3_loseSendings_28 m_holds0 rfl wl_M rfl rfl ⟨by decide, by decide⟩ ⟨by decide, by decide⟩ (Nat.le_of_ble_eq_true rfl) ?_
  refine n_if_ne (tgt := 36) M (by first | omega | exact hB _ _) dX3_loseSendings_31 (by decide) (fun q31 => ?_) (fun q31 => absurd q31 (by decide))
  refine x_aload0 M dX3_loseSendings_36 ?_
  refine gM9 M TB kw_424 dX3_loseSendings_37 ?_
  refine x_iload1 M dX3_loseSendings_40 ?_
  refine aM6 M TB (by omega) dX3_loseSendings_41 ?_
  refine x_istore3 M dX3_loseSendings_42 ?_
  refine x_aload0 M dX3_loseSendings_43 ?_
  refine gM9 M TB kw_424 dX3_loseSendings_44 ?_
  refine x_iload1 M dX3_loseSendings_47 ?_
  refine x_iload2 M dX3_loseSendings_48 ?_
  refine sM6 M TB (by omega) dX3_loseSendings_49 ?_
  refine x_iload3 M dX3_loseSendings_50 ?_
  exact x_iret M hr hlk dX3_loseSendings_51 ⟨by decide, by decide⟩ rfl rfl
set_option maxRecDepth 20000 in
set_option maxHeartbeats 2000000 in
theorem m_loseSendings1 (hO : Ok B) {x x2 : Int32} (h : bad (B 0 0) x) : x_Ret l D kc A yX3_loseSendings cX3_loseSendings 4 (some FieldType.int) rm_X3_loseSendings [.ref (ad 6), .int x, .int x2] (wl kc ad X (B) (th) ov (hw)) (some (.int (nI 0))) (wl kc ad X (B) (1) ov (hw)) := by
  refine x_ret_of RX3 (by decide +kernel) rfl [some (.ref (ad 6)), some (.int x), some (.int x2), none] (Nat.le_of_ble_eq_true rfl) rfl rfl ?_
  intro p e s m args below meth c M hr hlk hnm TB hAA
  have hB : ∀ r i, B r i < 2 ^ 31 := fun r i => Nat.lt_trans (hO.bd r i) (by decide)
  refine x_aload0 M dX3_loseSendings_0 ?_
  refine x_aload0 M dX3_loseSendings_1 ?_
  refine x_iload1 M dX3_loseSendings_2 ?_
  refine x_callV0 M TB hAA mv_X3_isLabel kw_495 dX3_loseSendings_3 (m_isLabel0 hO h) rfl wl_M rfl rfl ⟨by decide, by decide⟩ ⟨by decide, by decide⟩ (Nat.le_of_ble_eq_true rfl) ?_
  refine n_if_ne (tgt := 13) M (by first | omega | exact hB _ _) dX3_loseSendings_6 (by decide) (fun q6 => absurd rfl q6) (fun q6 => ?_)
  refine x_iconst (v := nI 1) M dX3_loseSendings_9 (by decide +kernel) ?_
  refine x_goto (tgt := 28) M dX3_loseSendings_10 (by decide) ?_
  refine x_callV0 M TB hAA mv_X3_holds kw_475 dX3_loseSendings_28 (m_holds1 (t := 1) (by decide) (by decide)) rfl wl_M rfl rfl ⟨by decide, by decide⟩ ⟨by decide, by decide⟩ (Nat.le_of_ble_eq_true rfl) ?_
  refine n_if_ne (tgt := 36) M (by first | omega | exact hB _ _) dX3_loseSendings_31 (by decide) (fun q31 => absurd rfl q31) (fun q31 => ?_)
  refine x_iconst (v := nI 0) M dX3_loseSendings_34 (by decide +kernel) ?_
  exact x_iret M hr hlk dX3_loseSendings_35 ⟨by decide, by decide⟩ rfl rfl
set_option maxRecDepth 20000 in
set_option maxHeartbeats 2000000 in
theorem m_loseSendings2 (hO : Ok B) {j : Nat} (hj : j < B 0 0) {x2 : Int32} (h : ¬ (¬ x2 < nI 0 ∧ x2 ≤ nI 20)) : x_Ret l D kc A yX3_loseSendings cX3_loseSendings 4 (some FieldType.int) rm_X3_loseSendings [.ref (ad 6), .int (nI j), .int x2] (wl kc ad X (B) (th) ov (hw)) (some (.int (nI 0))) (wl kc ad X (B) (2) ov (hw)) := by
  refine x_ret_of RX3 (by decide +kernel) rfl [some (.ref (ad 6)), some (.int (nI j)), some (.int x2), none] (Nat.le_of_ble_eq_true rfl) rfl rfl ?_
  intro p e s m args below meth c M hr hlk hnm TB hAA
  have hB : ∀ r i, B r i < 2 ^ 31 := fun r i => Nat.lt_trans (hO.bd r i) (by decide)
  refine x_aload0 M dX3_loseSendings_0 ?_
  refine x_aload0 M dX3_loseSendings_1 ?_
  refine x_iload1 M dX3_loseSendings_2 ?_
  refine x_callV0 M TB hAA mv_X3_isLabel kw_495 dX3_loseSendings_3 (m_isLabel1 hO hj) rfl wl_M rfl rfl ⟨by decide, by decide⟩ ⟨by decide, by decide⟩ (Nat.le_of_ble_eq_true rfl) ?_
  refine n_if_ne (tgt := 13) M (by first | omega | exact hB _ _) dX3_loseSendings_6 (by decide) (fun q6 => ?_) (fun q6 => absurd q6 (by decide))
  refine x_iload2 M dX3_loseSendings_13 ?_
  refine x_iconst (v := nI 0) M dX3_loseSendings_14 (by decide +kernel) ?_
  refine x_bipush (v := nI 20) M dX3_loseSendings_15 (by decide +kernel) ?_
  refine x_callS0 M TB hAA mv_X3_isIn kw_472 dX3_loseSendings_17 m_isIn rfl ⟨by decide, by decide⟩ ⟨by decide, by decide⟩ (Nat.le_of_ble_eq_true rfl) ?_
  refine b_if_eq (tgt := 27) M dX3_loseSendings_20 (by decide) (fun q20 => ?_) (fun q20 => (h ⟨q20.1, Int32.not_lt.mp q20.2⟩).elim)
  refine x_iconst (v := nI 2) M dX3_loseSendings_27 (by decide +kernel) ?_
  refine x_callV0 M TB hAA mv_X3_holds kw_475 dX3_loseSendings_28 (m_holds1 (t := 2) (by decide) (by decide)) rfl wl_M rfl rfl ⟨by decide, by decide⟩ ⟨by decide, by decide⟩ (Nat.le_of_ble_eq_true rfl) ?_
  refine n_if_ne (tgt := 36) M (by first | omega | exact hB _ _) dX3_loseSendings_31 (by decide) (fun q31 => absurd rfl q31) (fun q31 => ?_)
  refine x_iconst (v := nI 0) M dX3_loseSendings_34 (by decide +kernel) ?_
  exact x_iret M hr hlk dX3_loseSendings_35 ⟨by decide, by decide⟩ rfl rfl
theorem mv_X3_loseAnswers : x_MV yX3_loseAnswers cX3_loseAnswers 4 (some FieldType.int) 2 := ⟨kw_510, kw_21, ⟨by decide +kernel, by decide +kernel⟩, by decide +kernel, kw_508, kw_509⟩
abbrev rm_X3_loseAnswers : Room := { frames := 2, cells := 0, slots := 0, locals := 43 }
set_option maxRecDepth 20000 in
set_option maxHeartbeats 2000000 in
theorem m_loseAnswers (hO : Ok B) {j : Nat} (hj : j < B 0 0) {v : Nat} (hv : v ≤ 20) : x_Ret l D kc A yX3_loseAnswers cX3_loseAnswers 4 (some FieldType.int) rm_X3_loseAnswers [.ref (ad 6), .int (nI j), .int (nI v)] (wl kc ad X (B) (th) ov (hw)) (some (.int (nI (B 7 j)))) (wl kc ad X (up B 7 j v) (0) ov (hw)) := by
  refine x_ret_of RX3 (by decide +kernel) rfl [some (.ref (ad 6)), some (.int (nI j)), some (.int (nI v)), none] (Nat.le_of_ble_eq_true rfl) rfl rfl ?_
  intro p e s m args below meth c M hr hlk hnm TB hAA
  have hB : ∀ r i, B r i < 2 ^ 31 := fun r i => Nat.lt_trans (hO.bd r i) (by decide)
  have hn := hO.n
  refine x_aload0 M dX3_loseAnswers_0 ?_
  refine x_aload0 M dX3_loseAnswers_1 ?_
  refine x_iload1 M dX3_loseAnswers_2 ?_
  refine x_callV0 M TB hAA mv_X3_isLabel kw_495 dX3_loseAnswers_3 (m_isLabel1 hO hj) rfl wl_M rfl rfl ⟨by decide, by decide⟩ ⟨by decide, by decide⟩ (Nat.le_of_ble_eq_true rfl) ?_
  refine n_if_ne (tgt := 13) M (by first | omega | exact hB _ _) dX3_loseAnswers_6 (by decide) (fun q6 => ?_) (fun q6 => absurd q6 (by decide))
  refine x_iload2 M dX3_loseAnswers_13 ?_
  refine x_iconst (v := nI 0) M dX3_loseAnswers_14 (by decide +kernel) ?_
  refine x_bipush (v := nI 20) M dX3_loseAnswers_15 (by decide +kernel) ?_
  refine x_callS0 M TB hAA mv_X3_isIn kw_472 dX3_loseAnswers_17 m_isIn rfl ⟨by decide, by decide⟩ ⟨by decide, by decide⟩ (Nat.le_of_ble_eq_true rfl) ?_
  refine b_if_eq (tgt := 27) M dX3_loseAnswers_20 (by decide) (fun q20 => absurd ⟨nI_nlt (Nat.zero_le _) (by omega), nI_nlt hv (by decide)⟩ q20) (fun q20 => ?_)
  refine x_iconst (v := nI 0) M dX3_loseAnswers_23 (by decide +kernel) ?_
  refine x_goto (tgt := 28) M dX3_loseAnswers_24 (by decide) ?_
  refine x_callV0 M TB hAA mv_X3_holds kw_475 dX3_loseAnswers_28 m_holds0 rfl wl_M rfl rfl ⟨by decide, by decide⟩ ⟨by decide, by decide⟩ (Nat.le_of_ble_eq_true rfl) ?_
  refine n_if_ne (tgt := 36) M (by first | omega | exact hB _ _) dX3_loseAnswers_31 (by decide) (fun q31 => ?_) (fun q31 => absurd q31 (by decide))
  refine x_aload0 M dX3_loseAnswers_36 ?_
  refine gM10 M TB kw_425 dX3_loseAnswers_37 ?_
  refine x_iload1 M dX3_loseAnswers_40 ?_
  refine aM7 M TB (by omega) dX3_loseAnswers_41 ?_
  refine x_istore3 M dX3_loseAnswers_42 ?_
  refine x_aload0 M dX3_loseAnswers_43 ?_
  refine gM10 M TB kw_425 dX3_loseAnswers_44 ?_
  refine x_iload1 M dX3_loseAnswers_47 ?_
  refine x_iload2 M dX3_loseAnswers_48 ?_
  refine sM7 M TB (by omega) dX3_loseAnswers_49 ?_
  refine x_iload3 M dX3_loseAnswers_50 ?_
  exact x_iret M hr hlk dX3_loseAnswers_51 ⟨by decide, by decide⟩ rfl rfl
set_option maxRecDepth 20000 in
set_option maxHeartbeats 2000000 in
theorem m_loseAnswers1 (hO : Ok B) {x x2 : Int32} (h : bad (B 0 0) x) : x_Ret l D kc A yX3_loseAnswers cX3_loseAnswers 4 (some FieldType.int) rm_X3_loseAnswers [.ref (ad 6), .int x, .int x2] (wl kc ad X (B) (th) ov (hw)) (some (.int (nI 0))) (wl kc ad X (B) (1) ov (hw)) := by
  refine x_ret_of RX3 (by decide +kernel) rfl [some (.ref (ad 6)), some (.int x), some (.int x2), none] (Nat.le_of_ble_eq_true rfl) rfl rfl ?_
  intro p e s m args below meth c M hr hlk hnm TB hAA
  have hB : ∀ r i, B r i < 2 ^ 31 := fun r i => Nat.lt_trans (hO.bd r i) (by decide)
  refine x_aload0 M dX3_loseAnswers_0 ?_
  refine x_aload0 M dX3_loseAnswers_1 ?_
  refine x_iload1 M dX3_loseAnswers_2 ?_
  refine x_callV0 M TB hAA mv_X3_isLabel kw_495 dX3_loseAnswers_3 (m_isLabel0 hO h) rfl wl_M rfl rfl ⟨by decide, by decide⟩ ⟨by decide, by decide⟩ (Nat.le_of_ble_eq_true rfl) ?_
  refine n_if_ne (tgt := 13) M (by first | omega | exact hB _ _) dX3_loseAnswers_6 (by decide) (fun q6 => absurd rfl q6) (fun q6 => ?_)
  refine x_iconst (v := nI 1) M dX3_loseAnswers_9 (by decide +kernel) ?_
  refine x_goto (tgt := 28) M dX3_loseAnswers_10 (by decide) ?_
  refine x_callV0 M TB hAA mv_X3_holds kw_475 dX3_loseAnswers_28 (m_holds1 (t := 1) (by decide) (by decide)) rfl wl_M rfl rfl ⟨by decide, by decide⟩ ⟨by decide, by decide⟩ (Nat.le_of_ble_eq_true rfl) ?_
  refine n_if_ne (tgt := 36) M (by first | omega | exact hB _ _) dX3_loseAnswers_31 (by decide) (fun q31 => absurd rfl q31) (fun q31 => ?_)
  refine x_iconst (v := nI 0) M dX3_loseAnswers_34 (by decide +kernel) ?_
  exact x_iret M hr hlk dX3_loseAnswers_35 ⟨by decide, by decide⟩ rfl rfl
set_option maxRecDepth 20000 in
set_option maxHeartbeats 2000000 in
theorem m_loseAnswers2 (hO : Ok B) {j : Nat} (hj : j < B 0 0) {x2 : Int32} (h : ¬ (¬ x2 < nI 0 ∧ x2 ≤ nI 20)) : x_Ret l D kc A yX3_loseAnswers cX3_loseAnswers 4 (some FieldType.int) rm_X3_loseAnswers [.ref (ad 6), .int (nI j), .int x2] (wl kc ad X (B) (th) ov (hw)) (some (.int (nI 0))) (wl kc ad X (B) (2) ov (hw)) := by
  refine x_ret_of RX3 (by decide +kernel) rfl [some (.ref (ad 6)), some (.int (nI j)), some (.int x2), none] (Nat.le_of_ble_eq_true rfl) rfl rfl ?_
  intro p e s m args below meth c M hr hlk hnm TB hAA
  have hB : ∀ r i, B r i < 2 ^ 31 := fun r i => Nat.lt_trans (hO.bd r i) (by decide)
  refine x_aload0 M dX3_loseAnswers_0 ?_
  refine x_aload0 M dX3_loseAnswers_1 ?_
  refine x_iload1 M dX3_loseAnswers_2 ?_
  refine x_callV0 M TB hAA mv_X3_isLabel kw_495 dX3_loseAnswers_3 (m_isLabel1 hO hj) rfl wl_M rfl rfl ⟨by decide, by decide⟩ ⟨by decide, by decide⟩ (Nat.le_of_ble_eq_true rfl) ?_
  refine n_if_ne (tgt := 13) M (by first | omega | exact hB _ _) dX3_loseAnswers_6 (by decide) (fun q6 => ?_) (fun q6 => absurd q6 (by decide))
  refine x_iload2 M dX3_loseAnswers_13 ?_
  refine x_iconst (v := nI 0) M dX3_loseAnswers_14 (by decide +kernel) ?_
  refine x_bipush (v := nI 20) M dX3_loseAnswers_15 (by decide +kernel) ?_
  refine x_callS0 M TB hAA mv_X3_isIn kw_472 dX3_loseAnswers_17 m_isIn rfl ⟨by decide, by decide⟩ ⟨by decide, by decide⟩ (Nat.le_of_ble_eq_true rfl) ?_
  refine b_if_eq (tgt := 27) M dX3_loseAnswers_20 (by decide) (fun q20 => ?_) (fun q20 => (h ⟨q20.1, Int32.not_lt.mp q20.2⟩).elim)
  refine x_iconst (v := nI 2) M dX3_loseAnswers_27 (by decide +kernel) ?_
  refine x_callV0 M TB hAA mv_X3_holds kw_475 dX3_loseAnswers_28 (m_holds1 (t := 2) (by decide) (by decide)) rfl wl_M rfl rfl ⟨by decide, by decide⟩ ⟨by decide, by decide⟩ (Nat.le_of_ble_eq_true rfl) ?_
  refine n_if_ne (tgt := 36) M (by first | omega | exact hB _ _) dX3_loseAnswers_31 (by decide) (fun q31 => absurd rfl q31) (fun q31 => ?_)
  refine x_iconst (v := nI 0) M dX3_loseAnswers_34 (by decide +kernel) ?_
  exact x_iret M hr hlk dX3_loseAnswers_35 ⟨by decide, by decide⟩ rfl rfl
theorem mv_X3_time : x_MV yX3_time cX3_time 1 (some FieldType.int) 0 := ⟨kw_544, kw_21, ⟨by decide +kernel, by decide +kernel⟩, by decide +kernel, kw_542, kw_543⟩
abbrev rm_X3_time : Room := { frames := 0, cells := 0, slots := 0, locals := 0 }
set_option maxRecDepth 20000 in
set_option maxHeartbeats 2000000 in
theorem m_time  : x_Ret l D kc A yX3_time cX3_time 1 (some FieldType.int) rm_X3_time [.ref (ad 6)] (wl kc ad X (B) (th) ov (hw)) (some (.int (nI (B 0 1)))) (wl kc ad X (B) (0) ov (hw)) := by
  refine x_ret_of RX3 (by decide +kernel) rfl [some (.ref (ad 6))] (Nat.le_of_ble_eq_true rfl) rfl rfl ?_
  intro p e s m args below meth c M hr hlk hnm TB hAA
  refine x_aload0 M dX3_time_0 ?_
  refine x_iconst (v := nI 0) M dX3_time_1 (by decide +kernel) ?_
  refine pM0 M TB kw_415 dX3_time_2 ?_
  refine x_aload0 M dX3_time_5 ?_
  refine gM1 M TB kw_416 dX3_time_6 ?_
  exact x_iret M hr hlk dX3_time_9 ⟨by decide, by decide⟩ rfl rfl
theorem mv_X3_order : x_MV yX3_order cX3_order 2 (some FieldType.int) 1 := ⟨kw_548, kw_21, ⟨by decide +kernel, by decide +kernel⟩, by decide +kernel, kw_546, kw_547⟩
abbrev rm_X3_order : Room := { frames := 2, cells := 0, slots := 0, locals := 43 }
set_option maxRecDepth 20000 in
set_option maxHeartbeats 2000000 in
theorem m_order (hO : Ok B) {j : Nat} (hj : j < B 0 0) : x_Ret l D kc A yX3_order cX3_order 2 (some FieldType.int) rm_X3_order [.ref (ad 6), .int (nI j)] (wl kc ad X (B) (th) ov (hw)) (some (.int (eo (B 8 j)))) (wl kc ad X (B) (0) ov (hw)) := by
  refine x_ret_of RX3 (by decide +kernel) rfl [some (.ref (ad 6)), some (.int (nI j))] (Nat.le_of_ble_eq_true rfl) rfl rfl ?_
  intro p e s m args below meth c M hr hlk hnm TB hAA
  have hB : ∀ r i, B r i < 2 ^ 31 := fun r i => Nat.lt_trans (hO.bd r i) (by decide)
  have hn := hO.n
  refine x_aload0 M dX3_order_0 ?_
  refine x_aload0 M dX3_order_1 ?_
  refine x_iload1 M dX3_order_2 ?_
  refine x_callV0 M TB hAA mv_X3_isLabel kw_495 dX3_order_3 (m_isLabel1 hO hj) rfl wl_M rfl rfl ⟨by decide, by decide⟩ ⟨by decide, by decide⟩ (Nat.le_of_ble_eq_true rfl) ?_
  refine n_if_eq (tgt := 13) M (by first | omega | exact hB _ _) dX3_order_6 (by decide) (fun q6 => absurd q6 (by decide)) (fun q6 => ?_)
  refine x_iconst (v := nI 0) M dX3_order_9 (by decide +kernel) ?_
  refine x_goto (tgt := 14) M dX3_order_10 (by decide) ?_
  refine x_callV0 M TB hAA mv_X3_holds kw_475 dX3_order_14 m_holds0 rfl wl_M rfl rfl ⟨by decide, by decide⟩ ⟨by decide, by decide⟩ (Nat.le_of_ble_eq_true rfl) ?_
  refine n_if_ne (tgt := 22) M (by first | omega | exact hB _ _) dX3_order_17 (by decide) (fun q17 => ?_) (fun q17 => absurd q17 (by decide))
  refine x_aload0 M dX3_order_22 ?_
  refine gM11 M TB kw_426 dX3_order_23 ?_
  refine x_iload1 M dX3_order_26 ?_
  refine aM8 M TB (by omega) dX3_order_27 ?_
  refine n_if_ne (tgt := 35) M (by first | omega | exact hB _ _) dX3_order_28 (by decide) (fun q28 => ?_) (fun q28 => ?_)
  · refine x_aload0 M dX3_order_35 ?_
    refine gM11 M TB kw_426 dX3_order_36 ?_
    refine x_iload1 M dX3_order_39 ?_
    refine aM8 M TB (by omega) dX3_order_40 ?_
    exact x_iret M hr hlk dX3_order_41 ⟨by decide, by decide⟩ (by rw [eo, if_neg q28]) rfl
  · refine x_iconst (v := (-1)) M dX3_order_31 (by decide +kernel) ?_
    refine x_goto (tgt := 41) M dX3_order_32 (by decide) ?_
    exact x_iret M hr hlk dX3_order_41 ⟨by decide, by decide⟩ (by rw [eo, if_pos q28]) rfl
set_option maxRecDepth 20000 in
set_option maxHeartbeats 2000000 in
theorem m_order1 (hO : Ok B) {x : Int32} (h : bad (B 0 0) x) : x_Ret l D kc A yX3_order cX3_order 2 (some FieldType.int) rm_X3_order [.ref (ad 6), .int x] (wl kc ad X (B) (th) ov (hw)) (some (.int (nI 0))) (wl kc ad X (B) (1) ov (hw)) := by
  refine x_ret_of RX3 (by decide +kernel) rfl [some (.ref (ad 6)), some (.int x)] (Nat.le_of_ble_eq_true rfl) rfl rfl ?_
  intro p e s m args below meth c M hr hlk hnm TB hAA
  have hB : ∀ r i, B r i < 2 ^ 31 := fun r i => Nat.lt_trans (hO.bd r i) (by decide)
  refine x_aload0 M dX3_order_0 ?_
  refine x_aload0 M dX3_order_1 ?_
  refine x_iload1 M dX3_order_2 ?_
  refine x_callV0 M TB hAA mv_X3_isLabel kw_495 dX3_order_3 (m_isLabel0 hO h) rfl wl_M rfl rfl ⟨by decide, by decide⟩ ⟨by decide, by decide⟩ (Nat.le_of_ble_eq_true rfl) ?_
  refine n_if_eq (tgt := 13) M (by first | omega | exact hB _ _) dX3_order_6 (by decide) (fun q6 => ?_) (fun q6 => absurd rfl q6)
  refine x_iconst (v := nI 1) M dX3_order_13 (by decide +kernel) ?_
  refine x_callV0 M TB hAA mv_X3_holds kw_475 dX3_order_14 (m_holds1 (t := 1) (by decide) (by decide)) rfl wl_M rfl rfl ⟨by decide, by decide⟩ ⟨by decide, by decide⟩ (Nat.le_of_ble_eq_true rfl) ?_
  refine n_if_ne (tgt := 22) M (by first | omega | exact hB _ _) dX3_order_17 (by decide) (fun q17 => absurd rfl q17) (fun q17 => ?_)
  refine x_iconst (v := nI 0) M dX3_order_20 (by decide +kernel) ?_
  exact x_iret M hr hlk dX3_order_21 ⟨by decide, by decide⟩ rfl rfl
theorem mv_X3_shown : x_MV yX3_shown cX3_shown 2 (some FieldType.int) 1 := ⟨kw_560, kw_21, ⟨by decide +kernel, by decide +kernel⟩, by decide +kernel, kw_558, kw_559⟩
abbrev rm_X3_shown : Room := { frames := 2, cells := 0, slots := 0, locals := 43 }
set_option maxRecDepth 20000 in
set_option maxHeartbeats 2000000 in
theorem m_shown (hO : Ok B) {j : Nat} (hj : j < B 0 0) : x_Ret l D kc A yX3_shown cX3_shown 2 (some FieldType.int) rm_X3_shown [.ref (ad 6), .int (nI j)] (wl kc ad X (B) (th) ov (hw)) (some (.int (nI (B 3 j)))) (wl kc ad X (B) (0) ov (hw)) := by
  refine x_ret_of RX3 (by decide +kernel) rfl [some (.ref (ad 6)), some (.int (nI j))] (Nat.le_of_ble_eq_true rfl) rfl rfl ?_
  intro p e s m args below meth c M hr hlk hnm TB hAA
  have hB : ∀ r i, B r i < 2 ^ 31 := fun r i => Nat.lt_trans (hO.bd r i) (by decide)
  have hn := hO.n
  refine x_aload0 M dX3_shown_0 ?_
  refine x_aload0 M dX3_shown_1 ?_
  refine x_iload1 M dX3_shown_2 ?_
  refine x_callV0 M TB hAA mv_X3_isLabel kw_495 dX3_shown_3 (m_isLabel1 hO hj) rfl wl_M rfl rfl ⟨by decide, by decide⟩ ⟨by decide, by decide⟩ (Nat.le_of_ble_eq_true rfl) ?_
  refine n_if_eq (tgt := 13) M (by first | omega | exact hB _ _) dX3_shown_6 (by decide) (fun q6 => absurd q6 (by decide)) (fun q6 => ?_)
  refine x_iconst (v := nI 0) M dX3_shown_9 (by decide +kernel) ?_
  refine x_goto (tgt := 14) M dX3_shown_10 (by decide) ?_
  refine x_callV0 M TB hAA mv_X3_holds kw_475 dX3_shown_14 m_holds0 rfl wl_M rfl rfl ⟨by decide, by decide⟩ ⟨by decide, by decide⟩ (Nat.le_of_ble_eq_true rfl) ?_
  refine n_if_eq (tgt := 29) M (by first | omega | exact hB _ _) dX3_shown_17 (by decide) (fun q17 => absurd q17 (by decide)) (fun q17 => ?_)
  refine x_aload0 M dX3_shown_20 ?_
  refine gM6 M TB kw_421 dX3_shown_21 ?_
  refine x_iload1 M dX3_shown_24 ?_
  refine aM3 M TB (by omega) dX3_shown_25 ?_
  refine x_goto (tgt := 30) M dX3_shown_26 (by decide) ?_
  exact x_iret M hr hlk dX3_shown_30 ⟨by decide, by decide⟩ rfl rfl
set_option maxRecDepth 20000 in
set_option maxHeartbeats 2000000 in
theorem m_shown1 (hO : Ok B) {x : Int32} (h : bad (B 0 0) x) : x_Ret l D kc A yX3_shown cX3_shown 2 (some FieldType.int) rm_X3_shown [.ref (ad 6), .int x] (wl kc ad X (B) (th) ov (hw)) (some (.int (nI 0))) (wl kc ad X (B) (1) ov (hw)) := by
  refine x_ret_of RX3 (by decide +kernel) rfl [some (.ref (ad 6)), some (.int x)] (Nat.le_of_ble_eq_true rfl) rfl rfl ?_
  intro p e s m args below meth c M hr hlk hnm TB hAA
  have hB : ∀ r i, B r i < 2 ^ 31 := fun r i => Nat.lt_trans (hO.bd r i) (by decide)
  refine x_aload0 M dX3_shown_0 ?_
  refine x_aload0 M dX3_shown_1 ?_
  refine x_iload1 M dX3_shown_2 ?_
  refine x_callV0 M TB hAA mv_X3_isLabel kw_495 dX3_shown_3 (m_isLabel0 hO h) rfl wl_M rfl rfl ⟨by decide, by decide⟩ ⟨by decide, by decide⟩ (Nat.le_of_ble_eq_true rfl) ?_
  refine n_if_eq (tgt := 13) M (by first | omega | exact hB _ _) dX3_shown_6 (by decide) (fun q6 => ?_) (fun q6 => absurd rfl q6)
  refine x_iconst (v := nI 1) M dX3_shown_13 (by decide +kernel) ?_
  refine x_callV0 M TB hAA mv_X3_holds kw_475 dX3_shown_14 (m_holds1 (t := 1) (by decide) (by decide)) rfl wl_M rfl rfl ⟨by decide, by decide⟩ ⟨by decide, by decide⟩ (Nat.le_of_ble_eq_true rfl) ?_
  refine n_if_eq (tgt := 29) M (by first | omega | exact hB _ _) dX3_shown_17 (by decide) (fun q17 => ?_) (fun q17 => absurd rfl q17)
  refine x_iconst (v := nI 0) M dX3_shown_29 (by decide +kernel) ?_
  exact x_iret M hr hlk dX3_shown_30 ⟨by decide, by decide⟩ rfl rfl
theorem mv_X3_ghosts : x_MV yX3_ghosts cX3_ghosts 2 (some FieldType.int) 1 := ⟨kw_564, kw_21, ⟨by decide +kernel, by decide +kernel⟩, by decide +kernel, kw_562, kw_563⟩
abbrev rm_X3_ghosts : Room := { frames := 2, cells := 0, slots := 0, locals := 43 }
set_option maxRecDepth 20000 in
set_option maxHeartbeats 2000000 in
theorem m_ghosts (hO : Ok B) {j : Nat} (hj : j < B 0 0) : x_Ret l D kc A yX3_ghosts cX3_ghosts 2 (some FieldType.int) rm_X3_ghosts [.ref (ad 6), .int (nI j)] (wl kc ad X (B) (th) ov (hw)) (some (.int (nI (B 4 j)))) (wl kc ad X (B) (0) ov (hw)) := by
  refine x_ret_of RX3 (by decide +kernel) rfl [some (.ref (ad 6)), some (.int (nI j))] (Nat.le_of_ble_eq_true rfl) rfl rfl ?_
  intro p e s m args below meth c M hr hlk hnm TB hAA
  have hB : ∀ r i, B r i < 2 ^ 31 := fun r i => Nat.lt_trans (hO.bd r i) (by decide)
  have hn := hO.n
  refine x_aload0 M dX3_ghosts_0 ?_
  refine x_aload0 M dX3_ghosts_1 ?_
  refine x_iload1 M dX3_ghosts_2 ?_
  refine x_callV0 M TB hAA mv_X3_isLabel kw_495 dX3_ghosts_3 (m_isLabel1 hO hj) rfl wl_M rfl rfl ⟨by decide, by decide⟩ ⟨by decide, by decide⟩ (Nat.le_of_ble_eq_true rfl) ?_
  refine n_if_eq (tgt := 13) M (by first | omega | exact hB _ _) dX3_ghosts_6 (by decide) (fun q6 => absurd q6 (by decide)) (fun q6 => ?_)
  refine x_iconst (v := nI 0) M dX3_ghosts_9 (by decide +kernel) ?_
  refine x_goto (tgt := 14) M dX3_ghosts_10 (by decide) ?_
  refine x_callV0 M TB hAA mv_X3_holds kw_475 dX3_ghosts_14 m_holds0 rfl wl_M rfl rfl ⟨by decide, by decide⟩ ⟨by decide, by decide⟩ (Nat.le_of_ble_eq_true rfl) ?_
  refine n_if_eq (tgt := 29) M (by first | omega | exact hB _ _) dX3_ghosts_17 (by decide) (fun q17 => absurd q17 (by decide)) (fun q17 => ?_)
  refine x_aload0 M dX3_ghosts_20 ?_
  refine gM7 M TB kw_422 dX3_ghosts_21 ?_
  refine x_iload1 M dX3_ghosts_24 ?_
  refine aM4 M TB (by omega) dX3_ghosts_25 ?_
  refine x_goto (tgt := 30) M dX3_ghosts_26 (by decide) ?_
  exact x_iret M hr hlk dX3_ghosts_30 ⟨by decide, by decide⟩ rfl rfl
set_option maxRecDepth 20000 in
set_option maxHeartbeats 2000000 in
theorem m_ghosts1 (hO : Ok B) {x : Int32} (h : bad (B 0 0) x) : x_Ret l D kc A yX3_ghosts cX3_ghosts 2 (some FieldType.int) rm_X3_ghosts [.ref (ad 6), .int x] (wl kc ad X (B) (th) ov (hw)) (some (.int (nI 0))) (wl kc ad X (B) (1) ov (hw)) := by
  refine x_ret_of RX3 (by decide +kernel) rfl [some (.ref (ad 6)), some (.int x)] (Nat.le_of_ble_eq_true rfl) rfl rfl ?_
  intro p e s m args below meth c M hr hlk hnm TB hAA
  have hB : ∀ r i, B r i < 2 ^ 31 := fun r i => Nat.lt_trans (hO.bd r i) (by decide)
  refine x_aload0 M dX3_ghosts_0 ?_
  refine x_aload0 M dX3_ghosts_1 ?_
  refine x_iload1 M dX3_ghosts_2 ?_
  refine x_callV0 M TB hAA mv_X3_isLabel kw_495 dX3_ghosts_3 (m_isLabel0 hO h) rfl wl_M rfl rfl ⟨by decide, by decide⟩ ⟨by decide, by decide⟩ (Nat.le_of_ble_eq_true rfl) ?_
  refine n_if_eq (tgt := 13) M (by first | omega | exact hB _ _) dX3_ghosts_6 (by decide) (fun q6 => ?_) (fun q6 => absurd rfl q6)
  refine x_iconst (v := nI 1) M dX3_ghosts_13 (by decide +kernel) ?_
  refine x_callV0 M TB hAA mv_X3_holds kw_475 dX3_ghosts_14 (m_holds1 (t := 1) (by decide) (by decide)) rfl wl_M rfl rfl ⟨by decide, by decide⟩ ⟨by decide, by decide⟩ (Nat.le_of_ble_eq_true rfl) ?_
  refine n_if_eq (tgt := 29) M (by first | omega | exact hB _ _) dX3_ghosts_17 (by decide) (fun q17 => ?_) (fun q17 => absurd rfl q17)
  refine x_iconst (v := nI 0) M dX3_ghosts_29 (by decide +kernel) ?_
  exact x_iret M hr hlk dX3_ghosts_30 ⟨by decide, by decide⟩ rfl rfl
theorem mv_X3_battery : x_MV yX3_battery cX3_battery 2 (some FieldType.int) 1 := ⟨kw_568, kw_21, ⟨by decide +kernel, by decide +kernel⟩, by decide +kernel, kw_566, kw_567⟩
abbrev rm_X3_battery : Room := { frames := 2, cells := 0, slots := 0, locals := 43 }
set_option maxRecDepth 20000 in
set_option maxHeartbeats 2000000 in
theorem m_battery (hO : Ok B) {j : Nat} (hj : j < B 0 0) (hh : B 0 0 ≤ hw) : x_Ret l D kc A yX3_battery cX3_battery 2 (some FieldType.int) rm_X3_battery [.ref (ad 6), .int (nI j)] (wl kc ad X (B) (th) ov (hw)) (some (.int (nI (B 5 j)))) (wl kc ad X (B) (0) ov (hw)) := by
  refine x_ret_of RX3 (by decide +kernel) rfl [some (.ref (ad 6)), some (.int (nI j))] (Nat.le_of_ble_eq_true rfl) rfl rfl ?_
  intro p e s m args below meth c M hr hlk hnm TB hAA
  have hB : ∀ r i, B r i < 2 ^ 31 := fun r i => Nat.lt_trans (hO.bd r i) (by decide)
  have hn := hO.n
  refine x_aload0 M dX3_battery_0 ?_
  refine x_aload0 M dX3_battery_1 ?_
  refine x_iload1 M dX3_battery_2 ?_
  refine x_callV0 M TB hAA mv_X3_isLabel kw_495 dX3_battery_3 (m_isLabel1 hO hj) rfl wl_M rfl rfl ⟨by decide, by decide⟩ ⟨by decide, by decide⟩ (Nat.le_of_ble_eq_true rfl) ?_
  refine n_if_eq (tgt := 13) M (by first | omega | exact hB _ _) dX3_battery_6 (by decide) (fun q6 => absurd q6 (by decide)) (fun q6 => ?_)
  refine x_iconst (v := nI 0) M dX3_battery_9 (by decide +kernel) ?_
  refine x_goto (tgt := 14) M dX3_battery_10 (by decide) ?_
  refine x_callV0 M TB hAA mv_X3_holds kw_475 dX3_battery_14 m_holds0 rfl wl_M rfl rfl ⟨by decide, by decide⟩ ⟨by decide, by decide⟩ (Nat.le_of_ble_eq_true rfl) ?_
  refine n_if_eq (tgt := 29) M (by first | omega | exact hB _ _) dX3_battery_17 (by decide) (fun q17 => absurd q17 (by decide)) (fun q17 => ?_)
  refine x_aload0 M dX3_battery_20 ?_
  refine gM8 M TB kw_423 dX3_battery_21 ?_
  refine x_iload1 M dX3_battery_24 ?_
  refine aM5 M TB (by omega) (by omega) dX3_battery_25 ?_
  refine x_goto (tgt := 30) M dX3_battery_26 (by decide) ?_
  exact x_iret M hr hlk dX3_battery_30 ⟨by decide, by decide⟩ rfl rfl
set_option maxRecDepth 20000 in
set_option maxHeartbeats 2000000 in
theorem m_battery1 (hO : Ok B) {x : Int32} (h : bad (B 0 0) x) : x_Ret l D kc A yX3_battery cX3_battery 2 (some FieldType.int) rm_X3_battery [.ref (ad 6), .int x] (wl kc ad X (B) (th) ov (hw)) (some (.int (nI 0))) (wl kc ad X (B) (1) ov (hw)) := by
  refine x_ret_of RX3 (by decide +kernel) rfl [some (.ref (ad 6)), some (.int x)] (Nat.le_of_ble_eq_true rfl) rfl rfl ?_
  intro p e s m args below meth c M hr hlk hnm TB hAA
  have hB : ∀ r i, B r i < 2 ^ 31 := fun r i => Nat.lt_trans (hO.bd r i) (by decide)
  refine x_aload0 M dX3_battery_0 ?_
  refine x_aload0 M dX3_battery_1 ?_
  refine x_iload1 M dX3_battery_2 ?_
  refine x_callV0 M TB hAA mv_X3_isLabel kw_495 dX3_battery_3 (m_isLabel0 hO h) rfl wl_M rfl rfl ⟨by decide, by decide⟩ ⟨by decide, by decide⟩ (Nat.le_of_ble_eq_true rfl) ?_
  refine n_if_eq (tgt := 13) M (by first | omega | exact hB _ _) dX3_battery_6 (by decide) (fun q6 => ?_) (fun q6 => absurd rfl q6)
  refine x_iconst (v := nI 1) M dX3_battery_13 (by decide +kernel) ?_
  refine x_callV0 M TB hAA mv_X3_holds kw_475 dX3_battery_14 (m_holds1 (t := 1) (by decide) (by decide)) rfl wl_M rfl rfl ⟨by decide, by decide⟩ ⟨by decide, by decide⟩ (Nat.le_of_ble_eq_true rfl) ?_
  refine n_if_eq (tgt := 29) M (by first | omega | exact hB _ _) dX3_battery_17 (by decide) (fun q17 => ?_) (fun q17 => absurd rfl q17)
  refine x_iconst (v := nI 0) M dX3_battery_29 (by decide +kernel) ?_
  exact x_iret M hr hlk dX3_battery_30 ⟨by decide, by decide⟩ rfl rfl
theorem mv_X3_orders : x_MV yX3_orders cX3_orders 3 (some FieldType.int) 0 := ⟨kw_552, kw_21, ⟨by decide +kernel, by decide +kernel⟩, by decide +kernel, kw_550, kw_551⟩
abbrev rm_X3_orders : Room := { frames := 0, cells := 0, slots := 0, locals := 0 }
set_option maxRecDepth 20000 in
set_option maxHeartbeats 2000000 in
theorem m_orders (hO : Ok B) : x_Ret l D kc A yX3_orders cX3_orders 3 (some FieldType.int) rm_X3_orders [.ref (ad 6)] (wl kc ad X (B) (th) ov (hw)) (some (.int (nI (cnt B (B 0 0))))) (wl kc ad X (B) (0) ov (hw)) := by
  refine x_ret_of RX3 (by decide +kernel) rfl [some (.ref (ad 6)), none, none] (Nat.le_of_ble_eq_true rfl) rfl rfl ?_
  intro p e s m args below meth c M hr hlk hnm TB hAA
  have hB : ∀ r i, B r i < 2 ^ 31 := fun r i => Nat.lt_trans (hO.bd r i) (by decide)
  have loop : ∀ (d k : Nat), k + d = B 0 0 → x_X p l e rm_X3_orders s m args below meth c D A 3 0 0 (MQ below (x_Qc D A (some (.int (nI (cnt B (B 0 0))))) (wl kc ad X (B) (0) ov (hw))) args s rm_X3_orders.cells rm_X3_orders.slots A) (wl kc ad X (B) (0) ov (hw)) 9 [some (.ref (ad 6)), some (.int (nI (cnt B k))), some (.int (nI k))] [] := by
    intro d
    induction d with
    | zero =>
      intro k hk
      have hn := hO.n
      refine x_iload2 M dX3_orders_9 ?_
      refine x_aload0 M dX3_orders_10 ?_
      refine gM4 M TB kw_419 dX3_orders_11 ?_
      refine n_icmp_ge (tgt := 40) M (by first | omega | exact hB _ _) (by first | omega | exact hB _ _) dX3_orders_14 (by decide) (fun q14 => ?_) (fun q14 => absurd q14 (by omega))
      refine x_iload1 M dX3_orders_40 ?_
      exact x_iret M hr hlk dX3_orders_41 ⟨by decide, by decide⟩ (by rw [show k = B 0 0 by omega]) rfl
    | succ d ih =>
      intro k hk
      have hn := hO.n
      refine x_iload2 M dX3_orders_9 ?_
      refine x_aload0 M dX3_orders_10 ?_
      refine gM4 M TB kw_419 dX3_orders_11 ?_
      refine n_icmp_ge (tgt := 40) M (by first | omega | exact hB _ _) (by first | omega | exact hB _ _) dX3_orders_14 (by decide) (fun q14 => absurd q14 (by omega)) (fun q14 => ?_)
      refine x_iload1 M dX3_orders_17 ?_
      refine x_aload0 M dX3_orders_18 ?_
      refine gM11 M TB kw_426 dX3_orders_19 ?_
      refine x_iload2 M dX3_orders_22 ?_
      refine aM8 M TB (by omega) dX3_orders_23 ?_
      refine n_if_le (tgt := 31) M (by first | omega | exact hB _ _) dX3_orders_24 (by decide) (fun q24 => ?_) (fun q24 => ?_)
      · refine x_iconst (v := nI 0) M dX3_orders_31 (by decide +kernel) ?_
        refine n_add M dX3_orders_32 ?_
        refine x_istore1 M dX3_orders_33 ?_
        refine n_inc2 M dX3_orders_34 ?_
        refine x_goto (tgt := 9) M dX3_orders_37 (by decide) ?_
        have h9 := ih (k + 1) (by omega)
        rw [cnt_z q24] at h9
        exact h9
      · refine x_iconst (v := nI 1) M dX3_orders_27 (by decide +kernel) ?_
        refine x_goto (tgt := 32) M dX3_orders_28 (by decide) ?_
        refine n_add M dX3_orders_32 ?_
        refine x_istore1 M dX3_orders_33 ?_
        refine n_inc2 M dX3_orders_34 ?_
        refine x_goto (tgt := 9) M dX3_orders_37 (by decide) ?_
        have h9 := ih (k + 1) (by omega)
        rw [cnt_o (by omega)] at h9
        exact h9
  refine x_aload0 M dX3_orders_0 ?_
  refine x_iconst (v := nI 0) M dX3_orders_1 (by decide +kernel) ?_
  refine pM0 M TB kw_415 dX3_orders_2 ?_
  refine x_iconst (v := nI 0) M dX3_orders_5 (by decide +kernel) ?_
  refine x_istore1 M dX3_orders_6 ?_
  refine x_iconst (v := nI 0) M dX3_orders_7 (by decide +kernel) ?_
  refine x_istore2 M dX3_orders_8 ?_
  exact loop (B 0 0) 0 (by omega)
theorem mv_X3_nextToSend : x_MV yX3_nextToSend cX3_nextToSend 1 (some FieldType.int) 0 := ⟨kw_556, kw_21, ⟨by decide +kernel, by decide +kernel⟩, by decide +kernel, kw_554, kw_555⟩
abbrev rm_X3_nextToSend : Room := { frames := 1, cells := 0, slots := 0, locals := 24 }
set_option maxRecDepth 20000 in
set_option maxHeartbeats 2000000 in
theorem m_nextToSend (hO : Ok B) : x_Ret l D kc A yX3_nextToSend cX3_nextToSend 1 (some FieldType.int) rm_X3_nextToSend [.ref (ad 6)] (wl kc ad X (B) (th) ov (hw)) (some (.int (oI (nxt B (B 0 0))))) (wl kc ad X (B) (0) ov (hw)) := by
  refine x_ret_of RX3 (by decide +kernel) rfl [some (.ref (ad 6))] (Nat.le_of_ble_eq_true rfl) rfl rfl ?_
  intro p e s m args below meth c M hr hlk hnm TB hAA
  refine x_aload0 M dX3_nextToSend_0 ?_
  refine x_iconst (v := nI 0) M dX3_nextToSend_1 (by decide +kernel) ?_
  refine pM0 M TB kw_415 dX3_nextToSend_2 ?_
  refine x_aload0 M dX3_nextToSend_5 ?_
  refine x_callV0 M TB hAA mv_X3_longest kw_519 dX3_nextToSend_6 (m_longest hO) rfl wl_M rfl rfl ⟨by decide, by decide⟩ ⟨by decide, by decide⟩ (Nat.le_of_ble_eq_true rfl) ?_
  exact x_iret M hr hlk dX3_nextToSend_9 ⟨by decide, by decide⟩ rfl rfl
theorem mv_X3_lies : x_MV yX3_lies cX3_lies 3 (some FieldType.int) 0 := ⟨kw_572, kw_21, ⟨by decide +kernel, by decide +kernel⟩, by decide +kernel, kw_570, kw_571⟩
abbrev rm_X3_lies : Room := { frames := 0, cells := 0, slots := 0, locals := 0 }
set_option maxRecDepth 20000 in
set_option maxHeartbeats 2000000 in
theorem m_lies (hO : Ok B) : x_Ret l D kc A yX3_lies cX3_lies 3 (some FieldType.int) rm_X3_lies [.ref (ad 6)] (wl kc ad X (B) (th) ov (hw)) (some (.int (lie B (B 0 0)))) (wl kc ad X (B) (0) ov (hw)) := by
  refine x_ret_of RX3 (by decide +kernel) rfl [some (.ref (ad 6)), none, none] (Nat.le_of_ble_eq_true rfl) rfl rfl ?_
  intro p e s m args below meth c M hr hlk hnm TB hAA
  have hB : ∀ r i, B r i < 2 ^ 31 := fun r i => Nat.lt_trans (hO.bd r i) (by decide)
  have loop : ∀ (d k : Nat), k + d = B 0 0 → x_X p l e rm_X3_lies s m args below meth c D A 3 0 0 (MQ below (x_Qc D A (some (.int (lie B (B 0 0)))) (wl kc ad X (B) (0) ov (hw))) args s rm_X3_lies.cells rm_X3_lies.slots A) (wl kc ad X (B) (0) ov (hw)) 9 [some (.ref (ad 6)), some (.int (lie B k)), some (.int (nI k))] [] := by
    intro d
    induction d with
    | zero =>
      intro k hk
      have hn := hO.n
      have hwk := hO.w k
      refine x_iload2 M dX3_lies_9 ?_
      refine x_aload0 M dX3_lies_10 ?_
      refine gM4 M TB kw_419 dX3_lies_11 ?_
      refine n_icmp_ge (tgt := 53) M (by first | omega | exact hB _ _) (by first | omega | exact hB _ _) dX3_lies_14 (by decide) (fun q14 => ?_) (fun q14 => absurd q14 (by omega))
      refine x_iload1 M dX3_lies_53 ?_
      exact x_iret M hr hlk dX3_lies_54 ⟨by decide, by decide⟩ (by rw [show k = B 0 0 by omega]) rfl
    | succ d ih =>
      intro k hk
      have hn := hO.n
      have hwk := hO.w k
      refine x_iload2 M dX3_lies_9 ?_
      refine x_aload0 M dX3_lies_10 ?_
      refine gM4 M TB kw_419 dX3_lies_11 ?_
      refine n_icmp_ge (tgt := 53) M (by first | omega | exact hB _ _) (by first | omega | exact hB _ _) dX3_lies_14 (by decide) (fun q14 => absurd q14 (by omega)) (fun q14 => ?_)
      refine x_iload1 M dX3_lies_17 ?_
      refine x_aload0 M dX3_lies_18 ?_
      refine gM6 M TB kw_421 dX3_lies_19 ?_
      refine x_iload2 M dX3_lies_22 ?_
      refine aM3 M TB (by omega) dX3_lies_23 ?_
      refine x_aload0 M dX3_lies_24 ?_
      refine gM3 M TB kw_418 dX3_lies_25 ?_
      refine x_aload0 M dX3_lies_28 ?_
      refine gM5 M TB kw_420 dX3_lies_29 ?_
      refine x_iload2 M dX3_lies_32 ?_
      refine aM2 M TB (by omega) dX3_lies_33 ?_
      refine aM1 M TB (by omega) dX3_lies_34 ?_
      refine n_icmp_ge (tgt := 44) M (by first | omega | exact hB _ _) (by first | omega | exact hB _ _) dX3_lies_35 (by decide) (fun q35 => ?_) (fun q35 => ?_)
      · refine x_iconst (v := nI 0) M dX3_lies_44 (by decide +kernel) ?_
        refine x_ior (v := lie B k) M dX3_lies_45 (by rw [nI_0]; exact Int32.or_zero) ?_
        refine x_istore1 M dX3_lies_46 ?_
        refine n_inc2 M dX3_lies_47 ?_
        refine x_goto (tgt := 9) M dX3_lies_50 (by decide) ?_
        have h9 := ih (k + 1) (by omega)
        rw [lie_n (by omega)] at h9
        exact h9
      · refine x_iconst (v := nI 1) M dX3_lies_38 (by decide +kernel) ?_
        refine x_iload2 M dX3_lies_39 ?_
        refine x_ishl M dX3_lies_40 rfl ?_
        refine x_goto (tgt := 45) M dX3_lies_41 (by decide) ?_
        refine x_ior M dX3_lies_45 rfl ?_
        refine x_istore1 M dX3_lies_46 ?_
        refine n_inc2 M dX3_lies_47 ?_
        refine x_goto (tgt := 9) M dX3_lies_50 (by decide) ?_
        have h9 := ih (k + 1) (by omega)
        rw [lie_y q35] at h9
        exact h9
  refine x_aload0 M dX3_lies_0 ?_
  refine x_iconst (v := nI 0) M dX3_lies_1 (by decide +kernel) ?_
  refine pM0 M TB kw_415 dX3_lies_2 ?_
  refine x_iconst (v := nI 0) M dX3_lies_5 (by decide +kernel) ?_
  refine x_istore1 M dX3_lies_6 ?_
  refine x_iconst (v := nI 0) M dX3_lies_7 (by decide +kernel) ?_
  refine x_istore2 M dX3_lies_8 ?_
  exact loop (B 0 0) 0 (by omega)
theorem mv_X3_asked : x_MV yX3_asked cX3_asked 4 (some FieldType.int) 1 := ⟨kw_576, kw_21, ⟨by decide +kernel, by decide +kernel⟩, by decide +kernel, kw_574, kw_575⟩
abbrev rm_X3_asked : Room := { frames := 2, cells := 0, slots := 0, locals := 42 }
set_option maxRecDepth 20000 in
set_option maxHeartbeats 2000000 in
theorem m_asked (hO : Ok B) {j : Nat} (hj : j < 12) : x_Ret l D kc A yX3_asked cX3_asked 4 (some FieldType.int) rm_X3_asked [.ref (ad 6), .int (nI j)] (wl kc ad X (B) (th) ov (hw)) (some (.int (nI (min (B 1 j) (min (lnow B j (B 0 0)) (lhr B j 60)))))) (wl kc ad X (B) (0) ov (hw)) := by
  refine x_ret_of RX3 (by decide +kernel) rfl [some (.ref (ad 6)), some (.int (nI j)), none, none] (Nat.le_of_ble_eq_true rfl) rfl rfl ?_
  intro p e s m args below meth c M hr hlk hnm TB hAA
  have hB : ∀ r i, B r i < 2 ^ 31 := fun r i => Nat.lt_trans (hO.bd r i) (by decide)
  have hpj := hO.p j
  have hln := lnow_le B j (B 0 0)
  have loop : ∀ (d k : Nat), k + d = 60 → x_X p l e rm_X3_asked s m args below meth c D A 4 0 0 (MQ below (x_Qc D A (some (.int (nI (min (B 1 j) (min (lnow B j (B 0 0)) (lhr B j 60)))))) (wl kc ad X (B) (0) ov (hw))) args s rm_X3_asked.cells rm_X3_asked.slots A) (wl kc ad X (B) (0) ov (hw)) 38 [some (.ref (ad 6)), some (.int (nI j)), some (.int (em (min (min (B 1 j) (lnow B j (B 0 0))) (lhr B j k)))), some (.int (nI k))] [] := by
    intro d
    induction d with
    | zero =>
      intro k hk
      refine x_iload3 M dX3_asked_38 ?_
      refine x_bipush (v := nI 60) M dX3_asked_39 (by decide +kernel) ?_
      refine n_icmp_ge (tgt := 66) M (by first | omega | exact hB _ _) (by first | omega | exact hB _ _) dX3_asked_41 (by decide) (fun q41 => ?_) (fun q41 => absurd q41 (by omega))
      refine x_iload2 M dX3_asked_66 ?_
      exact x_iret M hr hlk dX3_asked_67 ⟨by decide, by decide⟩ (by rw [show k = 60 by omega, em_n (by omega), Nat.min_assoc]) rfl
    | succ d ih =>
      intro k hk
      refine x_iload3 M dX3_asked_38 ?_
      refine x_bipush (v := nI 60) M dX3_asked_39 (by decide +kernel) ?_
      refine n_icmp_ge (tgt := 66) M (by first | omega | exact hB _ _) (by first | omega | exact hB _ _) dX3_asked_41 (by decide) (fun q41 => absurd q41 (by omega)) (fun q41 => ?_)
      refine x_iload2 M dX3_asked_44 ?_
      refine x_aload0 M dX3_asked_45 ?_
      refine gM13 M TB kw_428 dX3_asked_46 ?_
      refine x_bipush (v := nI 60) M dX3_asked_49 (by decide +kernel) ?_
      refine x_iload1 M dX3_asked_51 ?_
      refine n_mul M dX3_asked_52 ?_
      refine x_iload3 M dX3_asked_53 ?_
      refine n_add M dX3_asked_54 ?_
      refine aM10 M TB (by omega) dX3_asked_55 ?_
      refine x_callS0 M TB hAA mv_X3_lesser kw_538 dX3_asked_56 (m_lesser (a := (min (min (B 1 j) (lnow B j (B 0 0))) (lhr B j k))) (b := B 10 (60 * j + k)) (by omega) (hO.l _)) rfl ⟨by decide, by decide⟩ ⟨by decide, by decide⟩ (Nat.le_of_ble_eq_true rfl) ?_
      refine x_istore2 M dX3_asked_59 ?_
      refine n_inc3 M dX3_asked_60 ?_
      refine x_goto (tgt := 38) M dX3_asked_63 (by decide) ?_
      have h9 := ih (k + 1) (by omega)
      rw [show min (min (B 1 j) (lnow B j (B 0 0))) (lhr B j (k + 1)) = min (min (min (B 1 j) (lnow B j (B 0 0))) (lhr B j k)) (B 10 (60 * j + k)) from (Nat.min_assoc _ _ _).symm] at h9
      exact h9
  refine x_aload0 M dX3_asked_0 ?_
  refine x_iload1 M dX3_asked_1 ?_
  refine x_callS0 M TB hAA mv_X3_isWare kw_469 dX3_asked_2 (m_isWare1 hj) rfl ⟨by decide, by decide⟩ ⟨by decide, by decide⟩ (Nat.le_of_ble_eq_true rfl) ?_
  refine n_if_eq (tgt := 12) M (by first | omega | exact hB _ _) dX3_asked_5 (by decide) (fun q5 => absurd q5 (by decide)) (fun q5 => ?_)
  refine x_iconst (v := nI 0) M dX3_asked_8 (by decide +kernel) ?_
  refine x_goto (tgt := 13) M dX3_asked_9 (by decide) ?_
  refine x_callV0 M TB hAA mv_X3_holds kw_475 dX3_asked_13 m_holds0 rfl wl_M rfl rfl ⟨by decide, by decide⟩ ⟨by decide, by decide⟩ (Nat.le_of_ble_eq_true rfl) ?_
  refine n_if_ne (tgt := 21) M (by first | omega | exact hB _ _) dX3_asked_16 (by decide) (fun q16 => ?_) (fun q16 => absurd q16 (by decide))
  refine x_aload0 M dX3_asked_21 ?_
  refine gM3 M TB kw_418 dX3_asked_22 ?_
  refine x_iload1 M dX3_asked_25 ?_
  refine aM1 M TB (by omega) dX3_asked_26 ?_
  refine x_aload0 M dX3_asked_27 ?_
  refine x_iload1 M dX3_asked_28 ?_
  refine x_callV0 M TB hAA mv_X3_leastNow kw_534 dX3_asked_29 (m_leastNow hO hj) rfl wl_M rfl rfl ⟨by decide, by decide⟩ ⟨by decide, by decide⟩ (Nat.le_of_ble_eq_true rfl) ?_
  refine x_callS0 M TB hAA mv_X3_lesser kw_538 dX3_asked_32 (m_lesserN hpj hln) rfl ⟨by decide, by decide⟩ ⟨by decide, by decide⟩ (Nat.le_of_ble_eq_true rfl) ?_
  refine x_istore2 M dX3_asked_35 ?_
  refine x_iconst (v := nI 0) M dX3_asked_36 (by decide +kernel) ?_
  refine x_istore3 M dX3_asked_37 ?_
  have h9 := loop 60 0 (by omega)
  rw [show (min (min (B 1 j) (lnow B j (B 0 0))) (lhr B j 0)) = (min (B 1 j) (lnow B j (B 0 0))) from Nat.min_eq_left (by show _ ≤ 10000; omega)] at h9
  exact h9
set_option maxRecDepth 20000 in
set_option maxHeartbeats 2000000 in
theorem m_asked1 {x : Int32} (h : bad 12 x) : x_Ret l D kc A yX3_asked cX3_asked 4 (some FieldType.int) rm_X3_asked [.ref (ad 6), .int x] (wl kc ad X (B) (th) ov (hw)) (some (.int (nI 0))) (wl kc ad X (B) (1) ov (hw)) := by
  refine x_ret_of RX3 (by decide +kernel) rfl [some (.ref (ad 6)), some (.int x), none, none] (Nat.le_of_ble_eq_true rfl) rfl rfl ?_
  intro p e s m args below meth c M hr hlk hnm TB hAA
  refine x_aload0 M dX3_asked_0 ?_
  refine x_iload1 M dX3_asked_1 ?_
  refine x_callS0 M TB hAA mv_X3_isWare kw_469 dX3_asked_2 (m_isWare0 h) rfl ⟨by decide, by decide⟩ ⟨by decide, by decide⟩ (Nat.le_of_ble_eq_true rfl) ?_
  refine n_if_eq (tgt := 12) M (by first | omega | exact hB _ _) dX3_asked_5 (by decide) (fun q5 => ?_) (fun q5 => absurd rfl q5)
  refine x_iconst (v := nI 1) M dX3_asked_12 (by decide +kernel) ?_
  refine x_callV0 M TB hAA mv_X3_holds kw_475 dX3_asked_13 (m_holds1 (t := 1) (by decide) (by decide)) rfl wl_M rfl rfl ⟨by decide, by decide⟩ ⟨by decide, by decide⟩ (Nat.le_of_ble_eq_true rfl) ?_
  refine n_if_ne (tgt := 21) M (by first | omega | exact hB _ _) dX3_asked_16 (by decide) (fun q16 => absurd rfl q16) (fun q16 => ?_)
  refine x_iconst (v := nI 0) M dX3_asked_19 (by decide +kernel) ?_
  exact x_iret M hr hlk dX3_asked_20 ⟨by decide, by decide⟩ rfl rfl
theorem mv_X3_leastEver : x_MV yX3_leastEver cX3_leastEver 2 (some FieldType.int) 1 := ⟨kw_580, kw_21, ⟨by decide +kernel, by decide +kernel⟩, by decide +kernel, kw_578, kw_579⟩
abbrev rm_X3_leastEver : Room := { frames := 2, cells := 0, slots := 0, locals := 42 }
set_option maxRecDepth 20000 in
set_option maxHeartbeats 2000000 in
theorem m_leastEver (hO : Ok B) {j : Nat} (hj : j < 12) : x_Ret l D kc A yX3_leastEver cX3_leastEver 2 (some FieldType.int) rm_X3_leastEver [.ref (ad 6), .int (nI j)] (wl kc ad X (B) (th) ov (hw)) (some (.int (em (min (lnow B j (B 0 0)) (B 11 j))))) (wl kc ad X (B) (0) ov (hw)) := by
  refine x_ret_of RX3 (by decide +kernel) rfl [some (.ref (ad 6)), some (.int (nI j))] (Nat.le_of_ble_eq_true rfl) rfl rfl ?_
  intro p e s m args below meth c M hr hlk hnm TB hAA
  have hB : ∀ r i, B r i < 2 ^ 31 := fun r i => Nat.lt_trans (hO.bd r i) (by decide)
  have hln := lnow_le B j (B 0 0)
  refine x_aload0 M dX3_leastEver_0 ?_
  refine x_iload1 M dX3_leastEver_1 ?_
  refine x_callS0 M TB hAA mv_X3_isWare kw_469 dX3_leastEver_2 (m_isWare1 hj) rfl ⟨by decide, by decide⟩ ⟨by decide, by decide⟩ (Nat.le_of_ble_eq_true rfl) ?_
  refine n_if_eq (tgt := 12) M (by first | omega | exact hB _ _) dX3_leastEver_5 (by decide) (fun q5 => absurd q5 (by decide)) (fun q5 => ?_)
  refine x_iconst (v := nI 0) M dX3_leastEver_8 (by decide +kernel) ?_
  refine x_goto (tgt := 13) M dX3_leastEver_9 (by decide) ?_
  refine x_callV0 M TB hAA mv_X3_holds kw_475 dX3_leastEver_13 m_holds0 rfl wl_M rfl rfl ⟨by decide, by decide⟩ ⟨by decide, by decide⟩ (Nat.le_of_ble_eq_true rfl) ?_
  refine n_if_eq (tgt := 36) M (by first | omega | exact hB _ _) dX3_leastEver_16 (by decide) (fun q16 => absurd q16 (by decide)) (fun q16 => ?_)
  refine x_aload0 M dX3_leastEver_19 ?_
  refine gM14 M TB kw_429 dX3_leastEver_20 ?_
  refine x_iload1 M dX3_leastEver_23 ?_
  refine aM11 M TB (by omega) dX3_leastEver_24 ?_
  refine x_aload0 M dX3_leastEver_25 ?_
  refine x_iload1 M dX3_leastEver_26 ?_
  refine x_callV0 M TB hAA mv_X3_leastNow kw_534 dX3_leastEver_27 (m_leastNow hO hj) rfl wl_M rfl rfl ⟨by decide, by decide⟩ ⟨by decide, by decide⟩ (Nat.le_of_ble_eq_true rfl) ?_
  refine x_callS0 M TB hAA mv_X3_lesser kw_538 dX3_leastEver_30 (m_lesser (hO.e j) hln) rfl ⟨by decide, by decide⟩ ⟨by decide, by decide⟩ (Nat.le_of_ble_eq_true rfl) ?_
  refine x_goto (tgt := 37) M dX3_leastEver_33 (by decide) ?_
  exact x_iret M hr hlk dX3_leastEver_37 ⟨by decide, by decide⟩ (by rw [Nat.min_comm]) rfl
set_option maxRecDepth 20000 in
set_option maxHeartbeats 2000000 in
theorem m_leastEver1 {x : Int32} (h : bad 12 x) : x_Ret l D kc A yX3_leastEver cX3_leastEver 2 (some FieldType.int) rm_X3_leastEver [.ref (ad 6), .int x] (wl kc ad X (B) (th) ov (hw)) (some (.int (nI 0))) (wl kc ad X (B) (1) ov (hw)) := by
  refine x_ret_of RX3 (by decide +kernel) rfl [some (.ref (ad 6)), some (.int x)] (Nat.le_of_ble_eq_true rfl) rfl rfl ?_
  intro p e s m args below meth c M hr hlk hnm TB hAA
  refine x_aload0 M dX3_leastEver_0 ?_
  refine x_iload1 M dX3_leastEver_1 ?_
  refine x_callS0 M TB hAA mv_X3_isWare kw_469 dX3_leastEver_2 (m_isWare0 h) rfl ⟨by decide, by decide⟩ ⟨by decide, by decide⟩ (Nat.le_of_ble_eq_true rfl) ?_
  refine n_if_eq (tgt := 12) M (by first | omega | exact hB _ _) dX3_leastEver_5 (by decide) (fun q5 => ?_) (fun q5 => absurd rfl q5)
  refine x_iconst (v := nI 1) M dX3_leastEver_12 (by decide +kernel) ?_
  refine x_callV0 M TB hAA mv_X3_holds kw_475 dX3_leastEver_13 (m_holds1 (t := 1) (by decide) (by decide)) rfl wl_M rfl rfl ⟨by decide, by decide⟩ ⟨by decide, by decide⟩ (Nat.le_of_ble_eq_true rfl) ?_
  refine n_if_eq (tgt := 36) M (by first | omega | exact hB _ _) dX3_leastEver_16 (by decide) (fun q16 => ?_) (fun q16 => absurd rfl q16)
  refine x_iconst (v := nI 0) M dX3_leastEver_36 (by decide +kernel) ?_
  exact x_iret M hr hlk dX3_leastEver_37 ⟨by decide, by decide⟩ rfl rfl
theorem mv_X3_setPrice : x_MV yX3_setPrice cX3_setPrice 5 (some FieldType.int) 2 := ⟨kw_468, kw_21, ⟨by decide +kernel, by decide +kernel⟩, by decide +kernel, kw_466, kw_467⟩
abbrev rm_X3_setPrice : Room := { frames := 2, cells := 0, slots := 0, locals := 42 }
set_option maxRecDepth 20000 in
set_option maxHeartbeats 2000000 in
theorem m_setPrice0 (hO : Ok B) {j v : Nat} (hj : j < 12) (hv : v ≤ 9999) (he : B 1 j = v) : x_Ret l D kc A yX3_setPrice cX3_setPrice 5 (some FieldType.int) rm_X3_setPrice [.ref (ad 6), .int (nI j), .int (nI v)] (wl kc ad X (B) (th) ov (hw)) (some (.int (nI 0))) (wl kc ad X (B) (0) ov (hw)) := by
  refine x_ret_of RX3 (by decide +kernel) rfl [some (.ref (ad 6)), some (.int (nI j)), some (.int (nI v)), none, none] (Nat.le_of_ble_eq_true rfl) rfl rfl ?_
  intro p e s m args below meth c M hr hlk hnm TB hAA
  have hB : ∀ r i, B r i < 2 ^ 31 := fun r i => Nat.lt_trans (hO.bd r i) (by decide)
  refine x_aload0 M dX3_setPrice_0 ?_
  refine x_iload1 M dX3_setPrice_1 ?_
  refine x_callS0 M TB hAA mv_X3_isWare kw_469 dX3_setPrice_2 (m_isWare1 hj) rfl ⟨by decide, by decide⟩ ⟨by decide, by decide⟩ (Nat.le_of_ble_eq_true rfl) ?_
  refine n_if_ne (tgt := 12) M (by first | omega | exact hB _ _) dX3_setPrice_5 (by decide) (fun q5 => ?_) (fun q5 => absurd q5 (by decide))
  refine x_iload2 M dX3_setPrice_12 ?_
  refine x_iconst (v := nI 0) M dX3_setPrice_13 (by decide +kernel) ?_
  refine x_sipush (v := nI 9999) M dX3_setPrice_14 (by decide +kernel) ?_
  refine x_callS0 M TB hAA mv_X3_isIn kw_472 dX3_setPrice_17 m_isIn rfl ⟨by decide, by decide⟩ ⟨by decide, by decide⟩ (Nat.le_of_ble_eq_true rfl) ?_
  refine b_if_eq (tgt := 27) M dX3_setPrice_20 (by decide) (fun q20 => absurd ⟨nI_nlt (Nat.zero_le _) (by omega), nI_nlt hv (by decide)⟩ q20) (fun q20 => ?_)
  refine x_iconst (v := nI 0) M dX3_setPrice_23 (by decide +kernel) ?_
  refine x_goto (tgt := 28) M dX3_setPrice_24 (by decide) ?_
  refine x_callV0 M TB hAA mv_X3_holds kw_475 dX3_setPrice_28 m_holds0 rfl wl_M rfl rfl ⟨by decide, by decide⟩ ⟨by decide, by decide⟩ (Nat.le_of_ble_eq_true rfl) ?_
  refine n_if_ne (tgt := 36) M (by first | omega | exact hB _ _) dX3_setPrice_31 (by decide) (fun q31 => ?_) (fun q31 => absurd q31 (by decide))
  refine x_aload0 M dX3_setPrice_36 ?_
  refine gM3 M TB kw_418 dX3_setPrice_37 ?_
  refine x_iload1 M dX3_setPrice_40 ?_
  refine aM1 M TB (by omega) dX3_setPrice_41 ?_
  refine x_iload2 M dX3_setPrice_42 ?_
  refine n_icmp_ne (tgt := 48) M (by first | omega | exact hB _ _) (by first | omega | exact hB _ _) dX3_setPrice_43 (by decide) (fun q43 => absurd he q43) (fun q43 => ?_)
  refine x_iconst (v := nI 0) M dX3_setPrice_46 (by decide +kernel) ?_
  exact x_iret M hr hlk dX3_setPrice_47 ⟨by decide, by decide⟩ rfl rfl
set_option maxRecDepth 20000 in
set_option maxHeartbeats 2000000 in
theorem m_setPrice (hO : Ok B) (hm : B 0 2 + 12 < 2 ^ 30) {j v : Nat} (hj : j < 12) (hv : v ≤ 9999) (he : B 1 j ≠ v) : x_Ret l D kc A yX3_setPrice cX3_setPrice 5 (some FieldType.int) rm_X3_setPrice [.ref (ad 6), .int (nI j), .int (nI v)] (wl kc ad X (B) (th) ov (hw)) (some (.int (nI (spl (up B 1 j v) j (B 0 0)).2))) (wl kc ad X ((spl (up B 1 j v) j (B 0 0)).1) (0) ov (hw)) := by
  refine x_ret_of RX3 (by decide +kernel) rfl [some (.ref (ad 6)), some (.int (nI j)), some (.int (nI v)), none, none] (Nat.le_of_ble_eq_true rfl) rfl rfl ?_
  intro p e s m args below meth c M hr hlk hnm TB hAA
  have hB : ∀ r i, B r i < 2 ^ 31 := fun r i => Nat.lt_trans (hO.bd r i) (by decide)
  have hn := hO.n
  have hY : Bd (up B 1 j v) := Bd_up hO.bd (by omega)
  have loop : ∀ (d k : Nat), k + d = B 0 0 → x_X p l e rm_X3_setPrice s m args below meth c D A 5 0 0 (MQ below (x_Qc D A (some (.int (nI (spl (up B 1 j v) j (B 0 0)).2))) (wl kc ad X ((spl (up B 1 j v) j (B 0 0)).1) (0) ov (hw))) args s rm_X3_setPrice.cells rm_X3_setPrice.slots A) (wl kc ad X ((spl (up B 1 j v) j k).1) (0) ov (hw)) 60 [some (.ref (ad 6)), some (.int (nI j)), some (.int (nI v)), some (.int (nI (spl (up B 1 j v) j k).2)), some (.int (nI k))] [] := by
    intro d
    induction d with
    | zero =>
      intro k hk
      obtain ⟨hs1, hs2, hs3, hs4, hs5, hs6⟩ := spl_ok hY hm j k (by omega)
      have hB : ∀ r i, (spl (up B 1 j v) j k).1 r i < 2 ^ 31 := fun r i => Nat.lt_trans (hs1 r i) (by decide)
      have e0 : (up B 1 j v) 0 0 = B 0 0 := rfl
      refine x_iload4 M dX3_setPrice_60 ?_
      refine x_aload0 M dX3_setPrice_62 ?_
      refine gM4 M TB kw_419 dX3_setPrice_63 ?_
      refine n_icmp_ge (tgt := 95) M (by first | omega | exact hB _ _) (by first | omega | exact hB _ _) dX3_setPrice_66 (by decide) (fun q66 => ?_) (fun q66 => absurd q66 (by omega))
      refine x_iload3 M dX3_setPrice_95 ?_
      exact x_iret M hr hlk dX3_setPrice_96 ⟨by decide, by decide⟩ (by rw [show k = B 0 0 by omega]) (by rw [show k = B 0 0 by omega])
    | succ d ih =>
      intro k hk
      obtain ⟨hs1, hs2, hs3, hs4, hs5, hs6⟩ := spl_ok hY hm j k (by omega)
      have hB : ∀ r i, (spl (up B 1 j v) j k).1 r i < 2 ^ 31 := fun r i => Nat.lt_trans (hs1 r i) (by decide)
      have e0 : (up B 1 j v) 0 0 = B 0 0 := rfl
      refine x_iload4 M dX3_setPrice_60 ?_
      refine x_aload0 M dX3_setPrice_62 ?_
      refine gM4 M TB kw_419 dX3_setPrice_63 ?_
      refine n_icmp_ge (tgt := 95) M (by first | omega | exact hB _ _) (by first | omega | exact hB _ _) dX3_setPrice_66 (by decide) (fun q66 => absurd q66 (by omega)) (fun q66 => ?_)
      refine x_aload0 M dX3_setPrice_69 ?_
      refine gM5 M TB kw_420 dX3_setPrice_70 ?_
      refine x_iload4 M dX3_setPrice_73 ?_
      refine aM2 M TB (by omega) dX3_setPrice_75 ?_
      refine x_iload1 M dX3_setPrice_76 ?_
      refine n_icmp_ne (tgt := 89) M (by first | omega | exact hB _ _) (by first | omega | exact hB _ _) dX3_setPrice_77 (by decide) (fun q77 => ?_) (fun q77 => ?_)
      · refine n_inc4 M dX3_setPrice_89 ?_
        refine x_goto (tgt := 60) M dX3_setPrice_92 (by decide) ?_
        have h9 := ih (k + 1) (by omega)
        rw [spl_m (fun h => q77 ((hs5 k).trans h))] at h9
        exact h9
      · refine x_aload0 M dX3_setPrice_80 ?_
        refine x_iload4 M dX3_setPrice_81 ?_
        refine x_callV0 M TB hAA mv_X3_gets kw_479 dX3_setPrice_83 (m_gets (B := (spl (up B 1 j v) j k).1) hs1 (i := k) (by omega)) rfl wl_M rfl rfl ⟨by decide, by decide⟩ ⟨by decide, by decide⟩ (Nat.le_of_ble_eq_true rfl) ?_
        refine n_inc3 M dX3_setPrice_86 ?_
        refine n_inc4 M dX3_setPrice_89 ?_
        refine x_goto (tgt := 60) M dX3_setPrice_92 (by decide) ?_
        have h9 := ih (k + 1) (by omega)
        rw [spl_p ((hs5 k).symm.trans q77)] at h9
        exact h9
  refine x_aload0 M dX3_setPrice_0 ?_
  refine x_iload1 M dX3_setPrice_1 ?_
  refine x_callS0 M TB hAA mv_X3_isWare kw_469 dX3_setPrice_2 (m_isWare1 hj) rfl ⟨by decide, by decide⟩ ⟨by decide, by decide⟩ (Nat.le_of_ble_eq_true rfl) ?_
  refine n_if_ne (tgt := 12) M (by first | omega | exact hB _ _) dX3_setPrice_5 (by decide) (fun q5 => ?_) (fun q5 => absurd q5 (by decide))
  refine x_iload2 M dX3_setPrice_12 ?_
  refine x_iconst (v := nI 0) M dX3_setPrice_13 (by decide +kernel) ?_
  refine x_sipush (v := nI 9999) M dX3_setPrice_14 (by decide +kernel) ?_
  refine x_callS0 M TB hAA mv_X3_isIn kw_472 dX3_setPrice_17 m_isIn rfl ⟨by decide, by decide⟩ ⟨by decide, by decide⟩ (Nat.le_of_ble_eq_true rfl) ?_
  refine b_if_eq (tgt := 27) M dX3_setPrice_20 (by decide) (fun q20 => absurd ⟨nI_nlt (Nat.zero_le _) (by omega), nI_nlt hv (by decide)⟩ q20) (fun q20 => ?_)
  refine x_iconst (v := nI 0) M dX3_setPrice_23 (by decide +kernel) ?_
  refine x_goto (tgt := 28) M dX3_setPrice_24 (by decide) ?_
  refine x_callV0 M TB hAA mv_X3_holds kw_475 dX3_setPrice_28 m_holds0 rfl wl_M rfl rfl ⟨by decide, by decide⟩ ⟨by decide, by decide⟩ (Nat.le_of_ble_eq_true rfl) ?_
  refine n_if_ne (tgt := 36) M (by first | omega | exact hB _ _) dX3_setPrice_31 (by decide) (fun q31 => ?_) (fun q31 => absurd q31 (by decide))
  refine x_aload0 M dX3_setPrice_36 ?_
  refine gM3 M TB kw_418 dX3_setPrice_37 ?_
  refine x_iload1 M dX3_setPrice_40 ?_
  refine aM1 M TB (by omega) dX3_setPrice_41 ?_
  refine x_iload2 M dX3_setPrice_42 ?_
  refine n_icmp_ne (tgt := 48) M (by first | omega | exact hB _ _) (by first | omega | exact hB _ _) dX3_setPrice_43 (by decide) (fun q43 => ?_) (fun q43 => absurd q43 he)
  refine x_aload0 M dX3_setPrice_48 ?_
  refine gM3 M TB kw_418 dX3_setPrice_49 ?_
  refine x_iload1 M dX3_setPrice_52 ?_
  refine x_iload2 M dX3_setPrice_53 ?_
  refine sM1 M TB (by omega) dX3_setPrice_54 ?_
  refine x_iconst (v := nI 0) M dX3_setPrice_55 (by decide +kernel) ?_
  refine x_istore3 M dX3_setPrice_56 ?_
  refine x_iconst (v := nI 0) M dX3_setPrice_57 (by decide +kernel) ?_
  refine x_istore4 M dX3_setPrice_58 ?_
  exact loop (B 0 0) 0 (by omega)
set_option maxRecDepth 20000 in
set_option maxHeartbeats 2000000 in
theorem m_setPrice1 {x x2 : Int32} (h : bad 12 x) : x_Ret l D kc A yX3_setPrice cX3_setPrice 5 (some FieldType.int) rm_X3_setPrice [.ref (ad 6), .int x, .int x2] (wl kc ad X (B) (th) ov (hw)) (some (.int (nI 0))) (wl kc ad X (B) (1) ov (hw)) := by
  refine x_ret_of RX3 (by decide +kernel) rfl [some (.ref (ad 6)), some (.int x), some (.int x2), none, none] (Nat.le_of_ble_eq_true rfl) rfl rfl ?_
  intro p e s m args below meth c M hr hlk hnm TB hAA
  refine x_aload0 M dX3_setPrice_0 ?_
  refine x_iload1 M dX3_setPrice_1 ?_
  refine x_callS0 M TB hAA mv_X3_isWare kw_469 dX3_setPrice_2 (m_isWare0 h) rfl ⟨by decide, by decide⟩ ⟨by decide, by decide⟩ (Nat.le_of_ble_eq_true rfl) ?_
  refine n_if_ne (tgt := 12) M (by first | omega | exact hB _ _) dX3_setPrice_5 (by decide) (fun q5 => absurd rfl q5) (fun q5 => ?_)
  refine x_iconst (v := nI 1) M dX3_setPrice_8 (by decide +kernel) ?_
  refine x_goto (tgt := 28) M dX3_setPrice_9 (by decide) ?_
  refine x_callV0 M TB hAA mv_X3_holds kw_475 dX3_setPrice_28 (m_holds1 (t := 1) (by decide) (by decide)) rfl wl_M rfl rfl ⟨by decide, by decide⟩ ⟨by decide, by decide⟩ (Nat.le_of_ble_eq_true rfl) ?_
  refine n_if_ne (tgt := 36) M (by first | omega | exact hB _ _) dX3_setPrice_31 (by decide) (fun q31 => absurd rfl q31) (fun q31 => ?_)
  refine x_iconst (v := nI 0) M dX3_setPrice_34 (by decide +kernel) ?_
  exact x_iret M hr hlk dX3_setPrice_35 ⟨by decide, by decide⟩ rfl rfl
set_option maxRecDepth 20000 in
set_option maxHeartbeats 2000000 in
theorem m_setPrice2 {j : Nat} (hj : j < 12) {x2 : Int32} (h : ¬ (¬ x2 < nI 0 ∧ x2 ≤ nI 9999)) : x_Ret l D kc A yX3_setPrice cX3_setPrice 5 (some FieldType.int) rm_X3_setPrice [.ref (ad 6), .int (nI j), .int x2] (wl kc ad X (B) (th) ov (hw)) (some (.int (nI 0))) (wl kc ad X (B) (2) ov (hw)) := by
  refine x_ret_of RX3 (by decide +kernel) rfl [some (.ref (ad 6)), some (.int (nI j)), some (.int x2), none, none] (Nat.le_of_ble_eq_true rfl) rfl rfl ?_
  intro p e s m args below meth c M hr hlk hnm TB hAA
  refine x_aload0 M dX3_setPrice_0 ?_
  refine x_iload1 M dX3_setPrice_1 ?_
  refine x_callS0 M TB hAA mv_X3_isWare kw_469 dX3_setPrice_2 (m_isWare1 hj) rfl ⟨by decide, by decide⟩ ⟨by decide, by decide⟩ (Nat.le_of_ble_eq_true rfl) ?_
  refine n_if_ne (tgt := 12) M (by first | omega | exact hB _ _) dX3_setPrice_5 (by decide) (fun q5 => ?_) (fun q5 => absurd q5 (by decide))
  refine x_iload2 M dX3_setPrice_12 ?_
  refine x_iconst (v := nI 0) M dX3_setPrice_13 (by decide +kernel) ?_
  refine x_sipush (v := nI 9999) M dX3_setPrice_14 (by decide +kernel) ?_
  refine x_callS0 M TB hAA mv_X3_isIn kw_472 dX3_setPrice_17 m_isIn rfl ⟨by decide, by decide⟩ ⟨by decide, by decide⟩ (Nat.le_of_ble_eq_true rfl) ?_
  refine b_if_eq (tgt := 27) M dX3_setPrice_20 (by decide) (fun q20 => ?_) (fun q20 => (h ⟨q20.1, Int32.not_lt.mp q20.2⟩).elim)
  refine x_iconst (v := nI 2) M dX3_setPrice_27 (by decide +kernel) ?_
  refine x_callV0 M TB hAA mv_X3_holds kw_475 dX3_setPrice_28 (m_holds1 (t := 2) (by decide) (by decide)) rfl wl_M rfl rfl ⟨by decide, by decide⟩ ⟨by decide, by decide⟩ (Nat.le_of_ble_eq_true rfl) ?_
  refine n_if_ne (tgt := 36) M (by first | omega | exact hB _ _) dX3_setPrice_31 (by decide) (fun q31 => absurd rfl q31) (fun q31 => ?_)
  refine x_iconst (v := nI 0) M dX3_setPrice_34 (by decide +kernel) ?_
  exact x_iret M hr hlk dX3_setPrice_35 ⟨by decide, by decide⟩ rfl rfl
end XM
end
section
/-! THE LAW's HELPERS: they call the class, and tell by a number what was thrown -/
section XM
variable {l : Launch} {D : va_G} {kc : Nat → ClassId} {A : Nat → Prop} {ad : Nat → Nat} {X B : St} {th : Nat} {ov : Int64} {hw : Nat}
theorem mv_L_setPrice : x_MW yL_setPrice cL_setPrice 5 (some FieldType.int) [(0, 10, 13, 13), (0, 10, 17, 15)] 4 := ⟨kw_141, kw_16, ⟨by decide +kernel, by decide +kernel⟩, by decide +kernel, kw_140⟩
abbrev rm_L_setPrice : Room := { frames := 2, cells := 0, slots := 0, locals := 46 }
abbrev rt_L_setPrice : Room := { frames := 8, cells := 1, slots := 6, locals := 128 }
set_option maxRecDepth 20000 in
set_option maxHeartbeats 2000000 in
theorem h_setPrice {a b : Int32} {r : Int32} {X2 : St} (hC : x_Ret l D kc A yX2_setPrice cX2_setPrice 5 (some FieldType.int) rm_X2_setPrice [.ref (ad 0), .int a, .int b] (wl kc ad (X) B th (ov) hw) (some (.int r)) (wl kc ad (X2) B th (ov) hw)) : x_RetW l D kc A yL_setPrice cL_setPrice 5 (some FieldType.int) [(0, 10, 13, 13), (0, 10, 17, 15)] rm_L_setPrice [.ref (ad 0), .int a, .int b, .ref (ad 18)] (wl kc ad (X) B th (ov) hw) (some (.int (nI 0))) (wl kc ad (X2) B th (r.toInt64) hw) := by
  refine x_retW_of RL (by decide +kernel) rfl [some (.ref (ad 0)), some (.int a), some (.int b), some (.ref (ad 18)), none] (Nat.le_of_ble_eq_true rfl) rfl rfl ?_
  intro p e s m args below meth c M hr hlk htab TB hAA
  refine x_aload3 M dL_setPrice_0 ?_
  refine x_iconst (v := nI 0) M dL_setPrice_1 (by decide +kernel) ?_
  refine x_aload0 M dL_setPrice_2 ?_
  refine x_iload1 M dL_setPrice_3 ?_
  refine x_iload2 M dL_setPrice_4 ?_
  refine x_callV0 M TB hAA mv_X2_setPrice kw_144 dL_setPrice_5 hC rfl wl_X rfl rfl ⟨by decide, by decide⟩ ⟨by decide, by decide⟩ (Nat.le_of_ble_eq_true rfl) ?_
  refine x_i2l M dL_setPrice_8 ?_
  refine sQ M TB dL_setPrice_9 ?_
  refine x_goto (tgt := 21) M dL_setPrice_10 (by decide) ?_
  refine x_iconst (v := nI 0) M dL_setPrice_21 (by decide +kernel) ?_
  exact x_iret M hr hlk dL_setPrice_22 ⟨by decide, by decide⟩ rfl rfl
set_option maxRecDepth 20000 in
set_option maxHeartbeats 2000000 in
theorem h_setPrice_1 {a b : Int32} (hT : x_Thr l D kc A yX2_setPrice cX2_setPrice 5 (some FieldType.int) rt_X2_setPrice [.ref (ad 0), .int a, .int b] (wl kc ad (X) B th (ov) hw) x_IO) : x_RetW l D kc A yL_setPrice cL_setPrice 5 (some FieldType.int) [(0, 10, 13, 13), (0, 10, 17, 15)] rt_L_setPrice [.ref (ad 0), .int a, .int b, .ref (ad 18)] (wl kc ad (X) B th (ov) hw) (some (.int (nI 1))) (wl kc ad (X) B th (ov) hw) := by
  refine x_retW_of RL (by decide +kernel) rfl [some (.ref (ad 0)), some (.int a), some (.int b), some (.ref (ad 18)), none] (Nat.le_of_ble_eq_true rfl) rfl rfl ?_
  intro p e s m args below meth c M hr hlk htab TB hAA
  refine x_aload3 M dL_setPrice_0 ?_
  refine x_iconst (v := nI 0) M dL_setPrice_1 (by decide +kernel) ?_
  refine x_aload0 M dL_setPrice_2 ?_
  refine x_iload1 M dL_setPrice_3 ?_
  refine x_iload2 M dL_setPrice_4 ?_
  refine x_callVT M TB hAA mv_X2_setPrice kw_144 dL_setPrice_5 hT rfl wl_X rfl rfl ⟨by decide, by decide⟩ ⟨by decide, by decide⟩ (Nat.le_of_ble_eq_true rfl) ?_
  refine x_Tcatch (name := x_IO) M [] ⟨0, 10, 13, 13⟩ [⟨0, 10, 17, 15⟩] htab (fun z hz => absurd hz List.not_mem_nil) rfl (by decide) (M.2.2.2.2 _ kw_142) TB.2.2.1.1 (fun q => ?_)
  refine x_astore4 M dL_setPrice_13 ?_
  refine x_iconst (v := nI 1) M dL_setPrice_15 (by decide +kernel) ?_
  exact x_iret M hr hlk dL_setPrice_16 ⟨by decide, by decide⟩ rfl rfl
set_option maxRecDepth 20000 in
set_option maxHeartbeats 2000000 in
theorem h_setPrice_2 {a b : Int32} (hT : x_Thr l D kc A yX2_setPrice cX2_setPrice 5 (some FieldType.int) rt_X2_setPrice [.ref (ad 0), .int a, .int b] (wl kc ad (X) B th (ov) hw) x_IA) : x_RetW l D kc A yL_setPrice cL_setPrice 5 (some FieldType.int) [(0, 10, 13, 13), (0, 10, 17, 15)] rt_L_setPrice [.ref (ad 0), .int a, .int b, .ref (ad 18)] (wl kc ad (X) B th (ov) hw) (some (.int (nI 2))) (wl kc ad (X) B th (ov) hw) := by
  refine x_retW_of RL (by decide +kernel) rfl [some (.ref (ad 0)), some (.int a), some (.int b), some (.ref (ad 18)), none] (Nat.le_of_ble_eq_true rfl) rfl rfl ?_
  intro p e s m args below meth c M hr hlk htab TB hAA
  refine x_aload3 M dL_setPrice_0 ?_
  refine x_iconst (v := nI 0) M dL_setPrice_1 (by decide +kernel) ?_
  refine x_aload0 M dL_setPrice_2 ?_
  refine x_iload1 M dL_setPrice_3 ?_
  refine x_iload2 M dL_setPrice_4 ?_
  refine x_callVT M TB hAA mv_X2_setPrice kw_144 dL_setPrice_5 hT rfl wl_X rfl rfl ⟨by decide, by decide⟩ ⟨by decide, by decide⟩ (Nat.le_of_ble_eq_true rfl) ?_
  refine x_Tcatch (name := x_IA) M [⟨0, 10, 13, 13⟩] ⟨0, 10, 17, 15⟩ [] htab (fun z hz => by rw [List.mem_singleton.mp hz]; exact Or.inr ⟨by decide, x_IO, M.2.2.2.2 _ kw_142, TB.2.2.2.1.1⟩) rfl (by decide) (M.2.2.2.2 _ kw_143) TB.2.2.1.2.1 (fun q => ?_)
  refine x_astore4 M dL_setPrice_17 ?_
  refine x_iconst (v := nI 2) M dL_setPrice_19 (by decide +kernel) ?_
  exact x_iret M hr hlk dL_setPrice_20 ⟨by decide, by decide⟩ rfl rfl
theorem mv_L_price : x_MW yL_price cL_price 4 (some FieldType.int) [(0, 9, 12, 13)] 3 := ⟨kw_244, kw_16, ⟨by decide +kernel, by decide +kernel⟩, by decide +kernel, kw_243⟩
abbrev rm_L_price : Room := { frames := 2, cells := 0, slots := 0, locals := 41 }
abbrev rt_L_price : Room := { frames := 8, cells := 1, slots := 6, locals := 123 }
set_option maxRecDepth 20000 in
set_option maxHeartbeats 2000000 in
theorem h_price {a : Int32} {r : Int32} {X2 : St} (hC : x_Ret l D kc A yX2_price cX2_price 2 (some FieldType.int) rm_X2_price [.ref (ad 0), .int a] (wl kc ad (X) B th (ov) hw) (some (.int r)) (wl kc ad (X2) B th (ov) hw)) : x_RetW l D kc A yL_price cL_price 4 (some FieldType.int) [(0, 9, 12, 13)] rm_L_price [.ref (ad 0), .int a, .ref (ad 18)] (wl kc ad (X) B th (ov) hw) (some (.int (nI 0))) (wl kc ad (X2) B th (r.toInt64) hw) := by
  refine x_retW_of RL (by decide +kernel) rfl [some (.ref (ad 0)), some (.int a), some (.ref (ad 18)), none] (Nat.le_of_ble_eq_true rfl) rfl rfl ?_
  intro p e s m args below meth c M hr hlk htab TB hAA
  refine x_aload2 M dL_price_0 ?_
  refine x_iconst (v := nI 0) M dL_price_1 (by decide +kernel) ?_
  refine x_aload0 M dL_price_2 ?_
  refine x_iload1 M dL_price_3 ?_
  refine x_callV0 M TB hAA mv_X2_price kw_245 dL_price_4 hC rfl wl_X rfl rfl ⟨by decide, by decide⟩ ⟨by decide, by decide⟩ (Nat.le_of_ble_eq_true rfl) ?_
  refine x_i2l M dL_price_7 ?_
  refine sQ M TB dL_price_8 ?_
  refine x_goto (tgt := 15) M dL_price_9 (by decide) ?_
  refine x_iconst (v := nI 0) M dL_price_15 (by decide +kernel) ?_
  exact x_iret M hr hlk dL_price_16 ⟨by decide, by decide⟩ rfl rfl
set_option maxRecDepth 20000 in
set_option maxHeartbeats 2000000 in
theorem h_price_1 {a : Int32} (hT : x_Thr l D kc A yX2_price cX2_price 2 (some FieldType.int) rt_X2_price [.ref (ad 0), .int a] (wl kc ad (X) B th (ov) hw) x_IO) : x_RetW l D kc A yL_price cL_price 4 (some FieldType.int) [(0, 9, 12, 13)] rt_L_price [.ref (ad 0), .int a, .ref (ad 18)] (wl kc ad (X) B th (ov) hw) (some (.int (nI 1))) (wl kc ad (X) B th (ov) hw) := by
  refine x_retW_of RL (by decide +kernel) rfl [some (.ref (ad 0)), some (.int a), some (.ref (ad 18)), none] (Nat.le_of_ble_eq_true rfl) rfl rfl ?_
  intro p e s m args below meth c M hr hlk htab TB hAA
  refine x_aload2 M dL_price_0 ?_
  refine x_iconst (v := nI 0) M dL_price_1 (by decide +kernel) ?_
  refine x_aload0 M dL_price_2 ?_
  refine x_iload1 M dL_price_3 ?_
  refine x_callVT M TB hAA mv_X2_price kw_245 dL_price_4 hT rfl wl_X rfl rfl ⟨by decide, by decide⟩ ⟨by decide, by decide⟩ (Nat.le_of_ble_eq_true rfl) ?_
  refine x_Tcatch (name := x_IO) M [] ⟨0, 9, 12, 13⟩ [] htab (fun z hz => absurd hz List.not_mem_nil) rfl (by decide) (M.2.2.2.2 _ kw_142) TB.2.2.1.1 (fun q => ?_)
  refine x_astore3 M dL_price_12 ?_
  refine x_iconst (v := nI 1) M dL_price_13 (by decide +kernel) ?_
  exact x_iret M hr hlk dL_price_14 ⟨by decide, by decide⟩ rfl rfl
theorem mv_L_hang : x_MW yL_hang cL_hang 4 (some FieldType.int) [(0, 9, 12, 13), (0, 9, 15, 24)] 3 := ⟨kw_251, kw_16, ⟨by decide +kernel, by decide +kernel⟩, by decide +kernel, kw_250⟩
abbrev rm_L_hang : Room := { frames := 2, cells := 0, slots := 0, locals := 41 }
abbrev rt_L_hang : Room := { frames := 8, cells := 1, slots := 6, locals := 123 }
set_option maxRecDepth 20000 in
set_option maxHeartbeats 2000000 in
theorem h_hang {a : Int32} {r : Int32} {X2 : St} (hC : x_Ret l D kc A yX2_hang cX2_hang 2 (some FieldType.int) rm_X2_hang [.ref (ad 0), .int a] (wl kc ad (X) B th (ov) hw) (some (.int r)) (wl kc ad (X2) B th (ov) hw)) : x_RetW l D kc A yL_hang cL_hang 4 (some FieldType.int) [(0, 9, 12, 13), (0, 9, 15, 24)] rm_L_hang [.ref (ad 0), .int a, .ref (ad 18)] (wl kc ad (X) B th (ov) hw) (some (.int (nI 0))) (wl kc ad (X2) B th (r.toInt64) hw) := by
  refine x_retW_of RL (by decide +kernel) rfl [some (.ref (ad 0)), some (.int a), some (.ref (ad 18)), none] (Nat.le_of_ble_eq_true rfl) rfl rfl ?_
  intro p e s m args below meth c M hr hlk htab TB hAA
  refine x_aload2 M dL_hang_0 ?_
  refine x_iconst (v := nI 0) M dL_hang_1 (by decide +kernel) ?_
  refine x_aload0 M dL_hang_2 ?_
  refine x_iload1 M dL_hang_3 ?_
  refine x_callV0 M TB hAA mv_X2_hang kw_253 dL_hang_4 hC rfl wl_X rfl rfl ⟨by decide, by decide⟩ ⟨by decide, by decide⟩ (Nat.le_of_ble_eq_true rfl) ?_
  refine x_i2l M dL_hang_7 ?_
  refine sQ M TB dL_hang_8 ?_
  refine x_goto (tgt := 18) M dL_hang_9 (by decide) ?_
  refine x_iconst (v := nI 0) M dL_hang_18 (by decide +kernel) ?_
  exact x_iret M hr hlk dL_hang_19 ⟨by decide, by decide⟩ rfl rfl
set_option maxRecDepth 20000 in
set_option maxHeartbeats 2000000 in
theorem h_hang_1 {a : Int32} (hT : x_Thr l D kc A yX2_hang cX2_hang 2 (some FieldType.int) rt_X2_hang [.ref (ad 0), .int a] (wl kc ad (X) B th (ov) hw) x_IO) : x_RetW l D kc A yL_hang cL_hang 4 (some FieldType.int) [(0, 9, 12, 13), (0, 9, 15, 24)] rt_L_hang [.ref (ad 0), .int a, .ref (ad 18)] (wl kc ad (X) B th (ov) hw) (some (.int (nI 1))) (wl kc ad (X) B th (ov) hw) := by
  refine x_retW_of RL (by decide +kernel) rfl [some (.ref (ad 0)), some (.int a), some (.ref (ad 18)), none] (Nat.le_of_ble_eq_true rfl) rfl rfl ?_
  intro p e s m args below meth c M hr hlk htab TB hAA
  refine x_aload2 M dL_hang_0 ?_
  refine x_iconst (v := nI 0) M dL_hang_1 (by decide +kernel) ?_
  refine x_aload0 M dL_hang_2 ?_
  refine x_iload1 M dL_hang_3 ?_
  refine x_callVT M TB hAA mv_X2_hang kw_253 dL_hang_4 hT rfl wl_X rfl rfl ⟨by decide, by decide⟩ ⟨by decide, by decide⟩ (Nat.le_of_ble_eq_true rfl) ?_
  refine x_Tcatch (name := x_IO) M [] ⟨0, 9, 12, 13⟩ [⟨0, 9, 15, 24⟩] htab (fun z hz => absurd hz List.not_mem_nil) rfl (by decide) (M.2.2.2.2 _ kw_142) TB.2.2.1.1 (fun q => ?_)
  refine x_astore3 M dL_hang_12 ?_
  refine x_iconst (v := nI 1) M dL_hang_13 (by decide +kernel) ?_
  exact x_iret M hr hlk dL_hang_14 ⟨by decide, by decide⟩ rfl rfl
set_option maxRecDepth 20000 in
set_option maxHeartbeats 2000000 in
theorem h_hang_2 {a : Int32} (hT : x_Thr l D kc A yX2_hang cX2_hang 2 (some FieldType.int) rt_X2_hang [.ref (ad 0), .int a] (wl kc ad (X) B th (ov) hw) x_IS) : x_RetW l D kc A yL_hang cL_hang 4 (some FieldType.int) [(0, 9, 12, 13), (0, 9, 15, 24)] rt_L_hang [.ref (ad 0), .int a, .ref (ad 18)] (wl kc ad (X) B th (ov) hw) (some (.int (nI 2))) (wl kc ad (X) B th (ov) hw) := by
  refine x_retW_of RL (by decide +kernel) rfl [some (.ref (ad 0)), some (.int a), some (.ref (ad 18)), none] (Nat.le_of_ble_eq_true rfl) rfl rfl ?_
  intro p e s m args below meth c M hr hlk htab TB hAA
  refine x_aload2 M dL_hang_0 ?_
  refine x_iconst (v := nI 0) M dL_hang_1 (by decide +kernel) ?_
  refine x_aload0 M dL_hang_2 ?_
  refine x_iload1 M dL_hang_3 ?_
  refine x_callVT M TB hAA mv_X2_hang kw_253 dL_hang_4 hT rfl wl_X rfl rfl ⟨by decide, by decide⟩ ⟨by decide, by decide⟩ (Nat.le_of_ble_eq_true rfl) ?_
  refine x_Tcatch (name := x_IS) M [⟨0, 9, 12, 13⟩] ⟨0, 9, 15, 24⟩ [] htab (fun z hz => by rw [List.mem_singleton.mp hz]; exact Or.inr ⟨by decide, x_IO, M.2.2.2.2 _ kw_142, TB.2.2.2.1.2.1⟩) rfl (by decide) (M.2.2.2.2 _ kw_252) TB.2.2.1.2.2 (fun q => ?_)
  refine x_astore3 M dL_hang_15 ?_
  refine x_iconst (v := nI 2) M dL_hang_16 (by decide +kernel) ?_
  exact x_iret M hr hlk dL_hang_17 ⟨by decide, by decide⟩ rfl rfl
theorem mv_L_carry : x_MW yL_carry cL_carry 5 (some FieldType.int) [(0, 17, 20, 13), (0, 17, 24, 24)] 4 := ⟨kw_275, kw_16, ⟨by decide +kernel, by decide +kernel⟩, by decide +kernel, kw_274⟩
abbrev rm_L_carry : Room := { frames := 2, cells := 0, slots := 0, locals := 44 }
abbrev rt_L_carry : Room := { frames := 8, cells := 1, slots := 6, locals := 126 }
set_option maxRecDepth 20000 in
set_option maxHeartbeats 2000000 in
theorem h_carry {a b : Int32} {Pr : Prop} [Decidable Pr] {X2 : St} (hC : x_Ret l D kc A yX2_carry cX2_carry 4 (some FieldType.boolean) rm_X2_carry [.ref (ad 0), .int a, .int b] (wl kc ad (X) B th (ov) hw) (some (.int (if Pr then 1 else 0))) (wl kc ad (X2) B th (ov) hw)) : x_RetW l D kc A yL_carry cL_carry 5 (some FieldType.int) [(0, 17, 20, 13), (0, 17, 24, 24)] rm_L_carry [.ref (ad 0), .int a, .int b, .ref (ad 18)] (wl kc ad (X) B th (ov) hw) (some (.int (nI 0))) (wl kc ad (X2) B th ((if Pr then 1 else 0)) hw) := by
  refine x_retW_of RL (by decide +kernel) rfl [some (.ref (ad 0)), some (.int a), some (.int b), some (.ref (ad 18)), none] (Nat.le_of_ble_eq_true rfl) rfl rfl ?_
  intro p e s m args below meth c M hr hlk htab TB hAA
  refine x_aload3 M dL_carry_0 ?_
  refine x_iconst (v := nI 0) M dL_carry_1 (by decide +kernel) ?_
  refine x_aload0 M dL_carry_2 ?_
  refine x_iload1 M dL_carry_3 ?_
  refine x_iload2 M dL_carry_4 ?_
  refine x_callV0 M TB hAA mv_X2_carry kw_276 dL_carry_5 hC rfl wl_X rfl rfl ⟨by decide, by decide⟩ ⟨by decide, by decide⟩ (Nat.le_of_ble_eq_true rfl) ?_
  refine b_if_eq (tgt := 15) M dL_carry_8 (by decide) (fun q8 => ?_) (fun q8 => ?_)
  · refine x_lconst (v := 0) M dL_carry_15 (by decide) ?_
    refine sQ M TB dL_carry_16 ?_
    refine x_goto (tgt := 28) M dL_carry_17 (by decide) ?_
    refine x_iconst (v := nI 0) M dL_carry_28 (by decide +kernel) ?_
    exact x_iret M hr hlk dL_carry_29 ⟨by decide, by decide⟩ rfl (by rw [if_neg q8])
  · refine x_lconst (v := 1) M dL_carry_11 (by decide) ?_
    refine x_goto (tgt := 16) M dL_carry_12 (by decide) ?_
    refine sQ M TB dL_carry_16 ?_
    refine x_goto (tgt := 28) M dL_carry_17 (by decide) ?_
    refine x_iconst (v := nI 0) M dL_carry_28 (by decide +kernel) ?_
    exact x_iret M hr hlk dL_carry_29 ⟨by decide, by decide⟩ rfl (by rw [if_pos q8])
set_option maxRecDepth 20000 in
set_option maxHeartbeats 2000000 in
theorem h_carry_1 {a b : Int32} (hT : x_Thr l D kc A yX2_carry cX2_carry 4 (some FieldType.boolean) rt_X2_carry [.ref (ad 0), .int a, .int b] (wl kc ad (X) B th (ov) hw) x_IO) : x_RetW l D kc A yL_carry cL_carry 5 (some FieldType.int) [(0, 17, 20, 13), (0, 17, 24, 24)] rt_L_carry [.ref (ad 0), .int a, .int b, .ref (ad 18)] (wl kc ad (X) B th (ov) hw) (some (.int (nI 1))) (wl kc ad (X) B th (ov) hw) := by
  refine x_retW_of RL (by decide +kernel) rfl [some (.ref (ad 0)), some (.int a), some (.int b), some (.ref (ad 18)), none] (Nat.le_of_ble_eq_true rfl) rfl rfl ?_
  intro p e s m args below meth c M hr hlk htab TB hAA
  refine x_aload3 M dL_carry_0 ?_
  refine x_iconst (v := nI 0) M dL_carry_1 (by decide +kernel) ?_
  refine x_aload0 M dL_carry_2 ?_
  refine x_iload1 M dL_carry_3 ?_
  refine x_iload2 M dL_carry_4 ?_
  refine x_callVT M TB hAA mv_X2_carry kw_276 dL_carry_5 hT rfl wl_X rfl rfl ⟨by decide, by decide⟩ ⟨by decide, by decide⟩ (Nat.le_of_ble_eq_true rfl) ?_
  refine x_Tcatch (name := x_IO) M [] ⟨0, 17, 20, 13⟩ [⟨0, 17, 24, 24⟩] htab (fun z hz => absurd hz List.not_mem_nil) rfl (by decide) (M.2.2.2.2 _ kw_142) TB.2.2.1.1 (fun q => ?_)
  refine x_astore4 M dL_carry_20 ?_
  refine x_iconst (v := nI 1) M dL_carry_22 (by decide +kernel) ?_
  exact x_iret M hr hlk dL_carry_23 ⟨by decide, by decide⟩ rfl rfl
set_option maxRecDepth 20000 in
set_option maxHeartbeats 2000000 in
theorem h_carry_2 {a b : Int32} (hT : x_Thr l D kc A yX2_carry cX2_carry 4 (some FieldType.boolean) rt_X2_carry [.ref (ad 0), .int a, .int b] (wl kc ad (X) B th (ov) hw) x_IS) : x_RetW l D kc A yL_carry cL_carry 5 (some FieldType.int) [(0, 17, 20, 13), (0, 17, 24, 24)] rt_L_carry [.ref (ad 0), .int a, .int b, .ref (ad 18)] (wl kc ad (X) B th (ov) hw) (some (.int (nI 2))) (wl kc ad (X) B th (ov) hw) := by
  refine x_retW_of RL (by decide +kernel) rfl [some (.ref (ad 0)), some (.int a), some (.int b), some (.ref (ad 18)), none] (Nat.le_of_ble_eq_true rfl) rfl rfl ?_
  intro p e s m args below meth c M hr hlk htab TB hAA
  refine x_aload3 M dL_carry_0 ?_
  refine x_iconst (v := nI 0) M dL_carry_1 (by decide +kernel) ?_
  refine x_aload0 M dL_carry_2 ?_
  refine x_iload1 M dL_carry_3 ?_
  refine x_iload2 M dL_carry_4 ?_
  refine x_callVT M TB hAA mv_X2_carry kw_276 dL_carry_5 hT rfl wl_X rfl rfl ⟨by decide, by decide⟩ ⟨by decide, by decide⟩ (Nat.le_of_ble_eq_true rfl) ?_
  refine x_Tcatch (name := x_IS) M [⟨0, 17, 20, 13⟩] ⟨0, 17, 24, 24⟩ [] htab (fun z hz => by rw [List.mem_singleton.mp hz]; exact Or.inr ⟨by decide, x_IO, M.2.2.2.2 _ kw_142, TB.2.2.2.1.2.1⟩) rfl (by decide) (M.2.2.2.2 _ kw_252) TB.2.2.1.2.2 (fun q => ?_)
  refine x_astore4 M dL_carry_24 ?_
  refine x_iconst (v := nI 2) M dL_carry_26 (by decide +kernel) ?_
  exact x_iret M hr hlk dL_carry_27 ⟨by decide, by decide⟩ rfl rfl
theorem mv_L_charge : x_MW yL_charge cL_charge 4 (some FieldType.int) [(0, 9, 12, 13)] 3 := ⟨kw_288, kw_16, ⟨by decide +kernel, by decide +kernel⟩, by decide +kernel, kw_287⟩
abbrev rm_L_charge : Room := { frames := 2, cells := 0, slots := 0, locals := 44 }
abbrev rt_L_charge : Room := { frames := 8, cells := 1, slots := 6, locals := 126 }
set_option maxRecDepth 20000 in
set_option maxHeartbeats 2000000 in
theorem h_charge {a : Int32} {r : Int32} {X2 : St} (hC : x_Ret l D kc A yX2_charge cX2_charge 4 (some FieldType.int) rm_X2_charge [.ref (ad 0), .int a] (wl kc ad (X) B th (ov) hw) (some (.int r)) (wl kc ad (X2) B th (ov) hw)) : x_RetW l D kc A yL_charge cL_charge 4 (some FieldType.int) [(0, 9, 12, 13)] rm_L_charge [.ref (ad 0), .int a, .ref (ad 18)] (wl kc ad (X) B th (ov) hw) (some (.int (nI 0))) (wl kc ad (X2) B th (r.toInt64) hw) := by
  refine x_retW_of RL (by decide +kernel) rfl [some (.ref (ad 0)), some (.int a), some (.ref (ad 18)), none] (Nat.le_of_ble_eq_true rfl) rfl rfl ?_
  intro p e s m args below meth c M hr hlk htab TB hAA
  refine x_aload2 M dL_charge_0 ?_
  refine x_iconst (v := nI 0) M dL_charge_1 (by decide +kernel) ?_
  refine x_aload0 M dL_charge_2 ?_
  refine x_iload1 M dL_charge_3 ?_
  refine x_callV0 M TB hAA mv_X2_charge kw_289 dL_charge_4 hC rfl wl_X rfl rfl ⟨by decide, by decide⟩ ⟨by decide, by decide⟩ (Nat.le_of_ble_eq_true rfl) ?_
  refine x_i2l M dL_charge_7 ?_
  refine sQ M TB dL_charge_8 ?_
  refine x_goto (tgt := 15) M dL_charge_9 (by decide) ?_
  refine x_iconst (v := nI 0) M dL_charge_15 (by decide +kernel) ?_
  exact x_iret M hr hlk dL_charge_16 ⟨by decide, by decide⟩ rfl rfl
set_option maxRecDepth 20000 in
set_option maxHeartbeats 2000000 in
theorem h_charge_1 {a : Int32} (hT : x_Thr l D kc A yX2_charge cX2_charge 4 (some FieldType.int) rt_X2_charge [.ref (ad 0), .int a] (wl kc ad (X) B th (ov) hw) x_IO) : x_RetW l D kc A yL_charge cL_charge 4 (some FieldType.int) [(0, 9, 12, 13)] rt_L_charge [.ref (ad 0), .int a, .ref (ad 18)] (wl kc ad (X) B th (ov) hw) (some (.int (nI 1))) (wl kc ad (X) B th (ov) hw) := by
  refine x_retW_of RL (by decide +kernel) rfl [some (.ref (ad 0)), some (.int a), some (.ref (ad 18)), none] (Nat.le_of_ble_eq_true rfl) rfl rfl ?_
  intro p e s m args below meth c M hr hlk htab TB hAA
  refine x_aload2 M dL_charge_0 ?_
  refine x_iconst (v := nI 0) M dL_charge_1 (by decide +kernel) ?_
  refine x_aload0 M dL_charge_2 ?_
  refine x_iload1 M dL_charge_3 ?_
  refine x_callVT M TB hAA mv_X2_charge kw_289 dL_charge_4 hT rfl wl_X rfl rfl ⟨by decide, by decide⟩ ⟨by decide, by decide⟩ (Nat.le_of_ble_eq_true rfl) ?_
  refine x_Tcatch (name := x_IO) M [] ⟨0, 9, 12, 13⟩ [] htab (fun z hz => absurd hz List.not_mem_nil) rfl (by decide) (M.2.2.2.2 _ kw_142) TB.2.2.1.1 (fun q => ?_)
  refine x_astore3 M dL_charge_12 ?_
  refine x_iconst (v := nI 1) M dL_charge_13 (by decide +kernel) ?_
  exact x_iret M hr hlk dL_charge_14 ⟨by decide, by decide⟩ rfl rfl
theorem mv_L_loseSendings : x_MW yL_loseSendings cL_loseSendings 5 (some FieldType.int) [(0, 10, 13, 13), (0, 10, 17, 15)] 4 := ⟨kw_295, kw_16, ⟨by decide +kernel, by decide +kernel⟩, by decide +kernel, kw_294⟩
abbrev rm_L_loseSendings : Room := { frames := 2, cells := 0, slots := 0, locals := 46 }
abbrev rt_L_loseSendings : Room := { frames := 8, cells := 1, slots := 6, locals := 128 }
set_option maxRecDepth 20000 in
set_option maxHeartbeats 2000000 in
theorem h_loseSendings {a b : Int32} {r : Int32} {X2 : St} (hC : x_Ret l D kc A yX2_loseSendings cX2_loseSendings 5 (some FieldType.int) rm_X2_loseSendings [.ref (ad 0), .int a, .int b] (wl kc ad (X) B th (ov) hw) (some (.int r)) (wl kc ad (X2) B th (ov) hw)) : x_RetW l D kc A yL_loseSendings cL_loseSendings 5 (some FieldType.int) [(0, 10, 13, 13), (0, 10, 17, 15)] rm_L_loseSendings [.ref (ad 0), .int a, .int b, .ref (ad 18)] (wl kc ad (X) B th (ov) hw) (some (.int (nI 0))) (wl kc ad (X2) B th (r.toInt64) hw) := by
  refine x_retW_of RL (by decide +kernel) rfl [some (.ref (ad 0)), some (.int a), some (.int b), some (.ref (ad 18)), none] (Nat.le_of_ble_eq_true rfl) rfl rfl ?_
  intro p e s m args below meth c M hr hlk htab TB hAA
  refine x_aload3 M dL_loseSendings_0 ?_
  refine x_iconst (v := nI 0) M dL_loseSendings_1 (by decide +kernel) ?_
  refine x_aload0 M dL_loseSendings_2 ?_
  refine x_iload1 M dL_loseSendings_3 ?_
  refine x_iload2 M dL_loseSendings_4 ?_
  refine x_callV0 M TB hAA mv_X2_loseSendings kw_296 dL_loseSendings_5 hC rfl wl_X rfl rfl ⟨by decide, by decide⟩ ⟨by decide, by decide⟩ (Nat.le_of_ble_eq_true rfl) ?_
  refine x_i2l M dL_loseSendings_8 ?_
  refine sQ M TB dL_loseSendings_9 ?_
  refine x_goto (tgt := 21) M dL_loseSendings_10 (by decide) ?_
  refine x_iconst (v := nI 0) M dL_loseSendings_21 (by decide +kernel) ?_
  exact x_iret M hr hlk dL_loseSendings_22 ⟨by decide, by decide⟩ rfl rfl
set_option maxRecDepth 20000 in
set_option maxHeartbeats 2000000 in
theorem h_loseSendings_1 {a b : Int32} (hT : x_Thr l D kc A yX2_loseSendings cX2_loseSendings 5 (some FieldType.int) rt_X2_loseSendings [.ref (ad 0), .int a, .int b] (wl kc ad (X) B th (ov) hw) x_IO) : x_RetW l D kc A yL_loseSendings cL_loseSendings 5 (some FieldType.int) [(0, 10, 13, 13), (0, 10, 17, 15)] rt_L_loseSendings [.ref (ad 0), .int a, .int b, .ref (ad 18)] (wl kc ad (X) B th (ov) hw) (some (.int (nI 1))) (wl kc ad (X) B th (ov) hw) := by
  refine x_retW_of RL (by decide +kernel) rfl [some (.ref (ad 0)), some (.int a), some (.int b), some (.ref (ad 18)), none] (Nat.le_of_ble_eq_true rfl) rfl rfl ?_
  intro p e s m args below meth c M hr hlk htab TB hAA
  refine x_aload3 M dL_loseSendings_0 ?_
  refine x_iconst (v := nI 0) M dL_loseSendings_1 (by decide +kernel) ?_
  refine x_aload0 M dL_loseSendings_2 ?_
  refine x_iload1 M dL_loseSendings_3 ?_
  refine x_iload2 M dL_loseSendings_4 ?_
  refine x_callVT M TB hAA mv_X2_loseSendings kw_296 dL_loseSendings_5 hT rfl wl_X rfl rfl ⟨by decide, by decide⟩ ⟨by decide, by decide⟩ (Nat.le_of_ble_eq_true rfl) ?_
  refine x_Tcatch (name := x_IO) M [] ⟨0, 10, 13, 13⟩ [⟨0, 10, 17, 15⟩] htab (fun z hz => absurd hz List.not_mem_nil) rfl (by decide) (M.2.2.2.2 _ kw_142) TB.2.2.1.1 (fun q => ?_)
  refine x_astore4 M dL_loseSendings_13 ?_
  refine x_iconst (v := nI 1) M dL_loseSendings_15 (by decide +kernel) ?_
  exact x_iret M hr hlk dL_loseSendings_16 ⟨by decide, by decide⟩ rfl rfl
set_option maxRecDepth 20000 in
set_option maxHeartbeats 2000000 in
theorem h_loseSendings_2 {a b : Int32} (hT : x_Thr l D kc A yX2_loseSendings cX2_loseSendings 5 (some FieldType.int) rt_X2_loseSendings [.ref (ad 0), .int a, .int b] (wl kc ad (X) B th (ov) hw) x_IA) : x_RetW l D kc A yL_loseSendings cL_loseSendings 5 (some FieldType.int) [(0, 10, 13, 13), (0, 10, 17, 15)] rt_L_loseSendings [.ref (ad 0), .int a, .int b, .ref (ad 18)] (wl kc ad (X) B th (ov) hw) (some (.int (nI 2))) (wl kc ad (X) B th (ov) hw) := by
  refine x_retW_of RL (by decide +kernel) rfl [some (.ref (ad 0)), some (.int a), some (.int b), some (.ref (ad 18)), none] (Nat.le_of_ble_eq_true rfl) rfl rfl ?_
  intro p e s m args below meth c M hr hlk htab TB hAA
  refine x_aload3 M dL_loseSendings_0 ?_
  refine x_iconst (v := nI 0) M dL_loseSendings_1 (by decide +kernel) ?_
  refine x_aload0 M dL_loseSendings_2 ?_
  refine x_iload1 M dL_loseSendings_3 ?_
  refine x_iload2 M dL_loseSendings_4 ?_
  refine x_callVT M TB hAA mv_X2_loseSendings kw_296 dL_loseSendings_5 hT rfl wl_X rfl rfl ⟨by decide, by decide⟩ ⟨by decide, by decide⟩ (Nat.le_of_ble_eq_true rfl) ?_
  refine x_Tcatch (name := x_IA) M [⟨0, 10, 13, 13⟩] ⟨0, 10, 17, 15⟩ [] htab (fun z hz => by rw [List.mem_singleton.mp hz]; exact Or.inr ⟨by decide, x_IO, M.2.2.2.2 _ kw_142, TB.2.2.2.1.1⟩) rfl (by decide) (M.2.2.2.2 _ kw_143) TB.2.2.1.2.1 (fun q => ?_)
  refine x_astore4 M dL_loseSendings_17 ?_
  refine x_iconst (v := nI 2) M dL_loseSendings_19 (by decide +kernel) ?_
  exact x_iret M hr hlk dL_loseSendings_20 ⟨by decide, by decide⟩ rfl rfl
theorem mv_L_loseAnswers : x_MW yL_loseAnswers cL_loseAnswers 5 (some FieldType.int) [(0, 10, 13, 13), (0, 10, 17, 15)] 4 := ⟨kw_302, kw_16, ⟨by decide +kernel, by decide +kernel⟩, by decide +kernel, kw_301⟩
abbrev rm_L_loseAnswers : Room := { frames := 2, cells := 0, slots := 0, locals := 46 }
abbrev rt_L_loseAnswers : Room := { frames := 8, cells := 1, slots := 6, locals := 128 }
set_option maxRecDepth 20000 in
set_option maxHeartbeats 2000000 in
theorem h_loseAnswers {a b : Int32} {r : Int32} {X2 : St} (hC : x_Ret l D kc A yX2_loseAnswers cX2_loseAnswers 5 (some FieldType.int) rm_X2_loseAnswers [.ref (ad 0), .int a, .int b] (wl kc ad (X) B th (ov) hw) (some (.int r)) (wl kc ad (X2) B th (ov) hw)) : x_RetW l D kc A yL_loseAnswers cL_loseAnswers 5 (some FieldType.int) [(0, 10, 13, 13), (0, 10, 17, 15)] rm_L_loseAnswers [.ref (ad 0), .int a, .int b, .ref (ad 18)] (wl kc ad (X) B th (ov) hw) (some (.int (nI 0))) (wl kc ad (X2) B th (r.toInt64) hw) := by
  refine x_retW_of RL (by decide +kernel) rfl [some (.ref (ad 0)), some (.int a), some (.int b), some (.ref (ad 18)), none] (Nat.le_of_ble_eq_true rfl) rfl rfl ?_
  intro p e s m args below meth c M hr hlk htab TB hAA
  refine x_aload3 M dL_loseAnswers_0 ?_
  refine x_iconst (v := nI 0) M dL_loseAnswers_1 (by decide +kernel) ?_
  refine x_aload0 M dL_loseAnswers_2 ?_
  refine x_iload1 M dL_loseAnswers_3 ?_
  refine x_iload2 M dL_loseAnswers_4 ?_
  refine x_callV0 M TB hAA mv_X2_loseAnswers kw_303 dL_loseAnswers_5 hC rfl wl_X rfl rfl ⟨by decide, by decide⟩ ⟨by decide, by decide⟩ (Nat.le_of_ble_eq_true rfl) ?_
  refine x_i2l M dL_loseAnswers_8 ?_
  refine sQ M TB dL_loseAnswers_9 ?_
  refine x_goto (tgt := 21) M dL_loseAnswers_10 (by decide) ?_
  refine x_iconst (v := nI 0) M dL_loseAnswers_21 (by decide +kernel) ?_
  exact x_iret M hr hlk dL_loseAnswers_22 ⟨by decide, by decide⟩ rfl rfl
set_option maxRecDepth 20000 in
set_option maxHeartbeats 2000000 in
theorem h_loseAnswers_1 {a b : Int32} (hT : x_Thr l D kc A yX2_loseAnswers cX2_loseAnswers 5 (some FieldType.int) rt_X2_loseAnswers [.ref (ad 0), .int a, .int b] (wl kc ad (X) B th (ov) hw) x_IO) : x_RetW l D kc A yL_loseAnswers cL_loseAnswers 5 (some FieldType.int) [(0, 10, 13, 13), (0, 10, 17, 15)] rt_L_loseAnswers [.ref (ad 0), .int a, .int b, .ref (ad 18)] (wl kc ad (X) B th (ov) hw) (some (.int (nI 1))) (wl kc ad (X) B th (ov) hw) := by
  refine x_retW_of RL (by decide +kernel) rfl [some (.ref (ad 0)), some (.int a), some (.int b), some (.ref (ad 18)), none] (Nat.le_of_ble_eq_true rfl) rfl rfl ?_
  intro p e s m args below meth c M hr hlk htab TB hAA
  refine x_aload3 M dL_loseAnswers_0 ?_
  refine x_iconst (v := nI 0) M dL_loseAnswers_1 (by decide +kernel) ?_
  refine x_aload0 M dL_loseAnswers_2 ?_
  refine x_iload1 M dL_loseAnswers_3 ?_
  refine x_iload2 M dL_loseAnswers_4 ?_
  refine x_callVT M TB hAA mv_X2_loseAnswers kw_303 dL_loseAnswers_5 hT rfl wl_X rfl rfl ⟨by decide, by decide⟩ ⟨by decide, by decide⟩ (Nat.le_of_ble_eq_true rfl) ?_
  refine x_Tcatch (name := x_IO) M [] ⟨0, 10, 13, 13⟩ [⟨0, 10, 17, 15⟩] htab (fun z hz => absurd hz List.not_mem_nil) rfl (by decide) (M.2.2.2.2 _ kw_142) TB.2.2.1.1 (fun q => ?_)
  refine x_astore4 M dL_loseAnswers_13 ?_
  refine x_iconst (v := nI 1) M dL_loseAnswers_15 (by decide +kernel) ?_
  exact x_iret M hr hlk dL_loseAnswers_16 ⟨by decide, by decide⟩ rfl rfl
set_option maxRecDepth 20000 in
set_option maxHeartbeats 2000000 in
theorem h_loseAnswers_2 {a b : Int32} (hT : x_Thr l D kc A yX2_loseAnswers cX2_loseAnswers 5 (some FieldType.int) rt_X2_loseAnswers [.ref (ad 0), .int a, .int b] (wl kc ad (X) B th (ov) hw) x_IA) : x_RetW l D kc A yL_loseAnswers cL_loseAnswers 5 (some FieldType.int) [(0, 10, 13, 13), (0, 10, 17, 15)] rt_L_loseAnswers [.ref (ad 0), .int a, .int b, .ref (ad 18)] (wl kc ad (X) B th (ov) hw) (some (.int (nI 2))) (wl kc ad (X) B th (ov) hw) := by
  refine x_retW_of RL (by decide +kernel) rfl [some (.ref (ad 0)), some (.int a), some (.int b), some (.ref (ad 18)), none] (Nat.le_of_ble_eq_true rfl) rfl rfl ?_
  intro p e s m args below meth c M hr hlk htab TB hAA
  refine x_aload3 M dL_loseAnswers_0 ?_
  refine x_iconst (v := nI 0) M dL_loseAnswers_1 (by decide +kernel) ?_
  refine x_aload0 M dL_loseAnswers_2 ?_
  refine x_iload1 M dL_loseAnswers_3 ?_
  refine x_iload2 M dL_loseAnswers_4 ?_
  refine x_callVT M TB hAA mv_X2_loseAnswers kw_303 dL_loseAnswers_5 hT rfl wl_X rfl rfl ⟨by decide, by decide⟩ ⟨by decide, by decide⟩ (Nat.le_of_ble_eq_true rfl) ?_
  refine x_Tcatch (name := x_IA) M [⟨0, 10, 13, 13⟩] ⟨0, 10, 17, 15⟩ [] htab (fun z hz => by rw [List.mem_singleton.mp hz]; exact Or.inr ⟨by decide, x_IO, M.2.2.2.2 _ kw_142, TB.2.2.2.1.1⟩) rfl (by decide) (M.2.2.2.2 _ kw_143) TB.2.2.1.2.1 (fun q => ?_)
  refine x_astore4 M dL_loseAnswers_17 ?_
  refine x_iconst (v := nI 2) M dL_loseAnswers_19 (by decide +kernel) ?_
  exact x_iret M hr hlk dL_loseAnswers_20 ⟨by decide, by decide⟩ rfl rfl
theorem mv_L_pass : x_MW yL_pass cL_pass 4 (some FieldType.int) [(0, 9, 12, 15), (0, 9, 15, 24)] 3 := ⟨kw_309, kw_16, ⟨by decide +kernel, by decide +kernel⟩, by decide +kernel, kw_308⟩
abbrev rm_L_pass : Room := { frames := 5, cells := 0, slots := 0, locals := 114 }
abbrev rt_L_pass : Room := { frames := 8, cells := 1, slots := 6, locals := 127 }
set_option maxRecDepth 20000 in
set_option maxHeartbeats 2000000 in
theorem h_pass {a : Int32} {r : Int32} {X2 : St} (hC : x_Ret l D kc A yX2_pass cX2_pass 4 (some FieldType.int) rm_X2_pass [.ref (ad 0), .int a] (wl kc ad (X) B th (ov) hw) (some (.int r)) (wl kc ad (X2) B th (ov) hw)) : x_RetW l D kc A yL_pass cL_pass 4 (some FieldType.int) [(0, 9, 12, 15), (0, 9, 15, 24)] rm_L_pass [.ref (ad 0), .int a, .ref (ad 18)] (wl kc ad (X) B th (ov) hw) (some (.int (nI 0))) (wl kc ad (X2) B th (r.toInt64) hw) := by
  refine x_retW_of RL (by decide +kernel) rfl [some (.ref (ad 0)), some (.int a), some (.ref (ad 18)), none] (Nat.le_of_ble_eq_true rfl) rfl rfl ?_
  intro p e s m args below meth c M hr hlk htab TB hAA
  refine x_aload2 M dL_pass_0 ?_
  refine x_iconst (v := nI 0) M dL_pass_1 (by decide +kernel) ?_
  refine x_aload0 M dL_pass_2 ?_
  refine x_iload1 M dL_pass_3 ?_
  refine x_callV0 M TB hAA mv_X2_pass kw_310 dL_pass_4 hC rfl wl_X rfl rfl ⟨by decide, by decide⟩ ⟨by decide, by decide⟩ (Nat.le_of_ble_eq_true rfl) ?_
  refine x_i2l M dL_pass_7 ?_
  refine sQ M TB dL_pass_8 ?_
  refine x_goto (tgt := 18) M dL_pass_9 (by decide) ?_
  refine x_iconst (v := nI 0) M dL_pass_18 (by decide +kernel) ?_
  exact x_iret M hr hlk dL_pass_19 ⟨by decide, by decide⟩ rfl rfl
set_option maxRecDepth 20000 in
set_option maxHeartbeats 2000000 in
theorem h_pass_1 {a : Int32} (hT : x_Thr l D kc A yX2_pass cX2_pass 4 (some FieldType.int) rt_X2_pass [.ref (ad 0), .int a] (wl kc ad (X) B th (ov) hw) x_IA) : x_RetW l D kc A yL_pass cL_pass 4 (some FieldType.int) [(0, 9, 12, 15), (0, 9, 15, 24)] rt_L_pass [.ref (ad 0), .int a, .ref (ad 18)] (wl kc ad (X) B th (ov) hw) (some (.int (nI 1))) (wl kc ad (X) B th (ov) hw) := by
  refine x_retW_of RL (by decide +kernel) rfl [some (.ref (ad 0)), some (.int a), some (.ref (ad 18)), none] (Nat.le_of_ble_eq_true rfl) rfl rfl ?_
  intro p e s m args below meth c M hr hlk htab TB hAA
  refine x_aload2 M dL_pass_0 ?_
  refine x_iconst (v := nI 0) M dL_pass_1 (by decide +kernel) ?_
  refine x_aload0 M dL_pass_2 ?_
  refine x_iload1 M dL_pass_3 ?_
  refine x_callVT M TB hAA mv_X2_pass kw_310 dL_pass_4 hT rfl wl_X rfl rfl ⟨by decide, by decide⟩ ⟨by decide, by decide⟩ (Nat.le_of_ble_eq_true rfl) ?_
  refine x_Tcatch (name := x_IA) M [] ⟨0, 9, 12, 15⟩ [⟨0, 9, 15, 24⟩] htab (fun z hz => absurd hz List.not_mem_nil) rfl (by decide) (M.2.2.2.2 _ kw_143) TB.2.2.1.2.1 (fun q => ?_)
  refine x_astore3 M dL_pass_12 ?_
  refine x_iconst (v := nI 1) M dL_pass_13 (by decide +kernel) ?_
  exact x_iret M hr hlk dL_pass_14 ⟨by decide, by decide⟩ rfl rfl
set_option maxRecDepth 20000 in
set_option maxHeartbeats 2000000 in
theorem h_pass_2 {a : Int32} (hT : x_Thr l D kc A yX2_pass cX2_pass 4 (some FieldType.int) rt_X2_pass [.ref (ad 0), .int a] (wl kc ad (X) B th (ov) hw) x_IS) : x_RetW l D kc A yL_pass cL_pass 4 (some FieldType.int) [(0, 9, 12, 15), (0, 9, 15, 24)] rt_L_pass [.ref (ad 0), .int a, .ref (ad 18)] (wl kc ad (X) B th (ov) hw) (some (.int (nI 2))) (wl kc ad (X) B th (ov) hw) := by
  refine x_retW_of RL (by decide +kernel) rfl [some (.ref (ad 0)), some (.int a), some (.ref (ad 18)), none] (Nat.le_of_ble_eq_true rfl) rfl rfl ?_
  intro p e s m args below meth c M hr hlk htab TB hAA
  refine x_aload2 M dL_pass_0 ?_
  refine x_iconst (v := nI 0) M dL_pass_1 (by decide +kernel) ?_
  refine x_aload0 M dL_pass_2 ?_
  refine x_iload1 M dL_pass_3 ?_
  refine x_callVT M TB hAA mv_X2_pass kw_310 dL_pass_4 hT rfl wl_X rfl rfl ⟨by decide, by decide⟩ ⟨by decide, by decide⟩ (Nat.le_of_ble_eq_true rfl) ?_
  refine x_Tcatch (name := x_IS) M [⟨0, 9, 12, 15⟩] ⟨0, 9, 15, 24⟩ [] htab (fun z hz => by rw [List.mem_singleton.mp hz]; exact Or.inr ⟨by decide, x_IA, M.2.2.2.2 _ kw_143, TB.2.2.2.1.2.2.1⟩) rfl (by decide) (M.2.2.2.2 _ kw_252) TB.2.2.1.2.2 (fun q => ?_)
  refine x_astore3 M dL_pass_15 ?_
  refine x_iconst (v := nI 2) M dL_pass_16 (by decide +kernel) ?_
  exact x_iret M hr hlk dL_pass_17 ⟨by decide, by decide⟩ rfl rfl
theorem mv_L_order : x_MW yL_order cL_order 4 (some FieldType.int) [(0, 9, 12, 13)] 3 := ⟨kw_356, kw_16, ⟨by decide +kernel, by decide +kernel⟩, by decide +kernel, kw_355⟩
abbrev rm_L_order : Room := { frames := 2, cells := 0, slots := 0, locals := 42 }
abbrev rt_L_order : Room := { frames := 8, cells := 1, slots := 6, locals := 124 }
set_option maxRecDepth 20000 in
set_option maxHeartbeats 2000000 in
theorem h_order {a : Int32} {r : Int32} {X2 : St} (hC : x_Ret l D kc A yX2_order cX2_order 2 (some FieldType.int) rm_X2_order [.ref (ad 0), .int a] (wl kc ad (X) B th (ov) hw) (some (.int r)) (wl kc ad (X2) B th (ov) hw)) : x_RetW l D kc A yL_order cL_order 4 (some FieldType.int) [(0, 9, 12, 13)] rm_L_order [.ref (ad 0), .int a, .ref (ad 18)] (wl kc ad (X) B th (ov) hw) (some (.int (nI 0))) (wl kc ad (X2) B th (r.toInt64) hw) := by
  refine x_retW_of RL (by decide +kernel) rfl [some (.ref (ad 0)), some (.int a), some (.ref (ad 18)), none] (Nat.le_of_ble_eq_true rfl) rfl rfl ?_
  intro p e s m args below meth c M hr hlk htab TB hAA
  refine x_aload2 M dL_order_0 ?_
  refine x_iconst (v := nI 0) M dL_order_1 (by decide +kernel) ?_
  refine x_aload0 M dL_order_2 ?_
  refine x_iload1 M dL_order_3 ?_
  refine x_callV0 M TB hAA mv_X2_order kw_357 dL_order_4 hC rfl wl_X rfl rfl ⟨by decide, by decide⟩ ⟨by decide, by decide⟩ (Nat.le_of_ble_eq_true rfl) ?_
  refine x_i2l M dL_order_7 ?_
  refine sQ M TB dL_order_8 ?_
  refine x_goto (tgt := 15) M dL_order_9 (by decide) ?_
  refine x_iconst (v := nI 0) M dL_order_15 (by decide +kernel) ?_
  exact x_iret M hr hlk dL_order_16 ⟨by decide, by decide⟩ rfl rfl
set_option maxRecDepth 20000 in
set_option maxHeartbeats 2000000 in
theorem h_order_1 {a : Int32} (hT : x_Thr l D kc A yX2_order cX2_order 2 (some FieldType.int) rt_X2_order [.ref (ad 0), .int a] (wl kc ad (X) B th (ov) hw) x_IO) : x_RetW l D kc A yL_order cL_order 4 (some FieldType.int) [(0, 9, 12, 13)] rt_L_order [.ref (ad 0), .int a, .ref (ad 18)] (wl kc ad (X) B th (ov) hw) (some (.int (nI 1))) (wl kc ad (X) B th (ov) hw) := by
  refine x_retW_of RL (by decide +kernel) rfl [some (.ref (ad 0)), some (.int a), some (.ref (ad 18)), none] (Nat.le_of_ble_eq_true rfl) rfl rfl ?_
  intro p e s m args below meth c M hr hlk htab TB hAA
  refine x_aload2 M dL_order_0 ?_
  refine x_iconst (v := nI 0) M dL_order_1 (by decide +kernel) ?_
  refine x_aload0 M dL_order_2 ?_
  refine x_iload1 M dL_order_3 ?_
  refine x_callVT M TB hAA mv_X2_order kw_357 dL_order_4 hT rfl wl_X rfl rfl ⟨by decide, by decide⟩ ⟨by decide, by decide⟩ (Nat.le_of_ble_eq_true rfl) ?_
  refine x_Tcatch (name := x_IO) M [] ⟨0, 9, 12, 13⟩ [] htab (fun z hz => absurd hz List.not_mem_nil) rfl (by decide) (M.2.2.2.2 _ kw_142) TB.2.2.1.1 (fun q => ?_)
  refine x_astore3 M dL_order_12 ?_
  refine x_iconst (v := nI 1) M dL_order_13 (by decide +kernel) ?_
  exact x_iret M hr hlk dL_order_14 ⟨by decide, by decide⟩ rfl rfl
theorem mv_L_shown : x_MW yL_shown cL_shown 4 (some FieldType.int) [(0, 9, 12, 13)] 3 := ⟨kw_363, kw_16, ⟨by decide +kernel, by decide +kernel⟩, by decide +kernel, kw_362⟩
abbrev rm_L_shown : Room := { frames := 2, cells := 0, slots := 0, locals := 42 }
abbrev rt_L_shown : Room := { frames := 8, cells := 1, slots := 6, locals := 124 }
set_option maxRecDepth 20000 in
set_option maxHeartbeats 2000000 in
theorem h_shown {a : Int32} {r : Int32} {X2 : St} (hC : x_Ret l D kc A yX2_shown cX2_shown 2 (some FieldType.int) rm_X2_shown [.ref (ad 0), .int a] (wl kc ad (X) B th (ov) hw) (some (.int r)) (wl kc ad (X2) B th (ov) hw)) : x_RetW l D kc A yL_shown cL_shown 4 (some FieldType.int) [(0, 9, 12, 13)] rm_L_shown [.ref (ad 0), .int a, .ref (ad 18)] (wl kc ad (X) B th (ov) hw) (some (.int (nI 0))) (wl kc ad (X2) B th (r.toInt64) hw) := by
  refine x_retW_of RL (by decide +kernel) rfl [some (.ref (ad 0)), some (.int a), some (.ref (ad 18)), none] (Nat.le_of_ble_eq_true rfl) rfl rfl ?_
  intro p e s m args below meth c M hr hlk htab TB hAA
  refine x_aload2 M dL_shown_0 ?_
  refine x_iconst (v := nI 0) M dL_shown_1 (by decide +kernel) ?_
  refine x_aload0 M dL_shown_2 ?_
  refine x_iload1 M dL_shown_3 ?_
  refine x_callV0 M TB hAA mv_X2_shown kw_364 dL_shown_4 hC rfl wl_X rfl rfl ⟨by decide, by decide⟩ ⟨by decide, by decide⟩ (Nat.le_of_ble_eq_true rfl) ?_
  refine x_i2l M dL_shown_7 ?_
  refine sQ M TB dL_shown_8 ?_
  refine x_goto (tgt := 15) M dL_shown_9 (by decide) ?_
  refine x_iconst (v := nI 0) M dL_shown_15 (by decide +kernel) ?_
  exact x_iret M hr hlk dL_shown_16 ⟨by decide, by decide⟩ rfl rfl
set_option maxRecDepth 20000 in
set_option maxHeartbeats 2000000 in
theorem h_shown_1 {a : Int32} (hT : x_Thr l D kc A yX2_shown cX2_shown 2 (some FieldType.int) rt_X2_shown [.ref (ad 0), .int a] (wl kc ad (X) B th (ov) hw) x_IO) : x_RetW l D kc A yL_shown cL_shown 4 (some FieldType.int) [(0, 9, 12, 13)] rt_L_shown [.ref (ad 0), .int a, .ref (ad 18)] (wl kc ad (X) B th (ov) hw) (some (.int (nI 1))) (wl kc ad (X) B th (ov) hw) := by
  refine x_retW_of RL (by decide +kernel) rfl [some (.ref (ad 0)), some (.int a), some (.ref (ad 18)), none] (Nat.le_of_ble_eq_true rfl) rfl rfl ?_
  intro p e s m args below meth c M hr hlk htab TB hAA
  refine x_aload2 M dL_shown_0 ?_
  refine x_iconst (v := nI 0) M dL_shown_1 (by decide +kernel) ?_
  refine x_aload0 M dL_shown_2 ?_
  refine x_iload1 M dL_shown_3 ?_
  refine x_callVT M TB hAA mv_X2_shown kw_364 dL_shown_4 hT rfl wl_X rfl rfl ⟨by decide, by decide⟩ ⟨by decide, by decide⟩ (Nat.le_of_ble_eq_true rfl) ?_
  refine x_Tcatch (name := x_IO) M [] ⟨0, 9, 12, 13⟩ [] htab (fun z hz => absurd hz List.not_mem_nil) rfl (by decide) (M.2.2.2.2 _ kw_142) TB.2.2.1.1 (fun q => ?_)
  refine x_astore3 M dL_shown_12 ?_
  refine x_iconst (v := nI 1) M dL_shown_13 (by decide +kernel) ?_
  exact x_iret M hr hlk dL_shown_14 ⟨by decide, by decide⟩ rfl rfl
theorem mv_L_ghosts : x_MW yL_ghosts cL_ghosts 4 (some FieldType.int) [(0, 9, 12, 13)] 3 := ⟨kw_370, kw_16, ⟨by decide +kernel, by decide +kernel⟩, by decide +kernel, kw_369⟩
abbrev rm_L_ghosts : Room := { frames := 2, cells := 0, slots := 0, locals := 42 }
abbrev rt_L_ghosts : Room := { frames := 8, cells := 1, slots := 6, locals := 124 }
set_option maxRecDepth 20000 in
set_option maxHeartbeats 2000000 in
theorem h_ghosts {a : Int32} {r : Int32} {X2 : St} (hC : x_Ret l D kc A yX2_ghosts cX2_ghosts 2 (some FieldType.int) rm_X2_ghosts [.ref (ad 0), .int a] (wl kc ad (X) B th (ov) hw) (some (.int r)) (wl kc ad (X2) B th (ov) hw)) : x_RetW l D kc A yL_ghosts cL_ghosts 4 (some FieldType.int) [(0, 9, 12, 13)] rm_L_ghosts [.ref (ad 0), .int a, .ref (ad 18)] (wl kc ad (X) B th (ov) hw) (some (.int (nI 0))) (wl kc ad (X2) B th (r.toInt64) hw) := by
  refine x_retW_of RL (by decide +kernel) rfl [some (.ref (ad 0)), some (.int a), some (.ref (ad 18)), none] (Nat.le_of_ble_eq_true rfl) rfl rfl ?_
  intro p e s m args below meth c M hr hlk htab TB hAA
  refine x_aload2 M dL_ghosts_0 ?_
  refine x_iconst (v := nI 0) M dL_ghosts_1 (by decide +kernel) ?_
  refine x_aload0 M dL_ghosts_2 ?_
  refine x_iload1 M dL_ghosts_3 ?_
  refine x_callV0 M TB hAA mv_X2_ghosts kw_371 dL_ghosts_4 hC rfl wl_X rfl rfl ⟨by decide, by decide⟩ ⟨by decide, by decide⟩ (Nat.le_of_ble_eq_true rfl) ?_
  refine x_i2l M dL_ghosts_7 ?_
  refine sQ M TB dL_ghosts_8 ?_
  refine x_goto (tgt := 15) M dL_ghosts_9 (by decide) ?_
  refine x_iconst (v := nI 0) M dL_ghosts_15 (by decide +kernel) ?_
  exact x_iret M hr hlk dL_ghosts_16 ⟨by decide, by decide⟩ rfl rfl
set_option maxRecDepth 20000 in
set_option maxHeartbeats 2000000 in
theorem h_ghosts_1 {a : Int32} (hT : x_Thr l D kc A yX2_ghosts cX2_ghosts 2 (some FieldType.int) rt_X2_ghosts [.ref (ad 0), .int a] (wl kc ad (X) B th (ov) hw) x_IO) : x_RetW l D kc A yL_ghosts cL_ghosts 4 (some FieldType.int) [(0, 9, 12, 13)] rt_L_ghosts [.ref (ad 0), .int a, .ref (ad 18)] (wl kc ad (X) B th (ov) hw) (some (.int (nI 1))) (wl kc ad (X) B th (ov) hw) := by
  refine x_retW_of RL (by decide +kernel) rfl [some (.ref (ad 0)), some (.int a), some (.ref (ad 18)), none] (Nat.le_of_ble_eq_true rfl) rfl rfl ?_
  intro p e s m args below meth c M hr hlk htab TB hAA
  refine x_aload2 M dL_ghosts_0 ?_
  refine x_iconst (v := nI 0) M dL_ghosts_1 (by decide +kernel) ?_
  refine x_aload0 M dL_ghosts_2 ?_
  refine x_iload1 M dL_ghosts_3 ?_
  refine x_callVT M TB hAA mv_X2_ghosts kw_371 dL_ghosts_4 hT rfl wl_X rfl rfl ⟨by decide, by decide⟩ ⟨by decide, by decide⟩ (Nat.le_of_ble_eq_true rfl) ?_
  refine x_Tcatch (name := x_IO) M [] ⟨0, 9, 12, 13⟩ [] htab (fun z hz => absurd hz List.not_mem_nil) rfl (by decide) (M.2.2.2.2 _ kw_142) TB.2.2.1.1 (fun q => ?_)
  refine x_astore3 M dL_ghosts_12 ?_
  refine x_iconst (v := nI 1) M dL_ghosts_13 (by decide +kernel) ?_
  exact x_iret M hr hlk dL_ghosts_14 ⟨by decide, by decide⟩ rfl rfl
theorem mv_L_battery : x_MW yL_battery cL_battery 4 (some FieldType.int) [(0, 9, 12, 13)] 3 := ⟨kw_377, kw_16, ⟨by decide +kernel, by decide +kernel⟩, by decide +kernel, kw_376⟩
abbrev rm_L_battery : Room := { frames := 2, cells := 0, slots := 0, locals := 42 }
abbrev rt_L_battery : Room := { frames := 8, cells := 1, slots := 6, locals := 124 }
set_option maxRecDepth 20000 in
set_option maxHeartbeats 2000000 in
theorem h_battery {a : Int32} {r : Int32} {X2 : St} (hC : x_Ret l D kc A yX2_battery cX2_battery 2 (some FieldType.int) rm_X2_battery [.ref (ad 0), .int a] (wl kc ad (X) B th (ov) hw) (some (.int r)) (wl kc ad (X2) B th (ov) hw)) : x_RetW l D kc A yL_battery cL_battery 4 (some FieldType.int) [(0, 9, 12, 13)] rm_L_battery [.ref (ad 0), .int a, .ref (ad 18)] (wl kc ad (X) B th (ov) hw) (some (.int (nI 0))) (wl kc ad (X2) B th (r.toInt64) hw) := by
  refine x_retW_of RL (by decide +kernel) rfl [some (.ref (ad 0)), some (.int a), some (.ref (ad 18)), none] (Nat.le_of_ble_eq_true rfl) rfl rfl ?_
  intro p e s m args below meth c M hr hlk htab TB hAA
  refine x_aload2 M dL_battery_0 ?_
  refine x_iconst (v := nI 0) M dL_battery_1 (by decide +kernel) ?_
  refine x_aload0 M dL_battery_2 ?_
  refine x_iload1 M dL_battery_3 ?_
  refine x_callV0 M TB hAA mv_X2_battery kw_378 dL_battery_4 hC rfl wl_X rfl rfl ⟨by decide, by decide⟩ ⟨by decide, by decide⟩ (Nat.le_of_ble_eq_true rfl) ?_
  refine x_i2l M dL_battery_7 ?_
  refine sQ M TB dL_battery_8 ?_
  refine x_goto (tgt := 15) M dL_battery_9 (by decide) ?_
  refine x_iconst (v := nI 0) M dL_battery_15 (by decide +kernel) ?_
  exact x_iret M hr hlk dL_battery_16 ⟨by decide, by decide⟩ rfl rfl
set_option maxRecDepth 20000 in
set_option maxHeartbeats 2000000 in
theorem h_battery_1 {a : Int32} (hT : x_Thr l D kc A yX2_battery cX2_battery 2 (some FieldType.int) rt_X2_battery [.ref (ad 0), .int a] (wl kc ad (X) B th (ov) hw) x_IO) : x_RetW l D kc A yL_battery cL_battery 4 (some FieldType.int) [(0, 9, 12, 13)] rt_L_battery [.ref (ad 0), .int a, .ref (ad 18)] (wl kc ad (X) B th (ov) hw) (some (.int (nI 1))) (wl kc ad (X) B th (ov) hw) := by
  refine x_retW_of RL (by decide +kernel) rfl [some (.ref (ad 0)), some (.int a), some (.ref (ad 18)), none] (Nat.le_of_ble_eq_true rfl) rfl rfl ?_
  intro p e s m args below meth c M hr hlk htab TB hAA
  refine x_aload2 M dL_battery_0 ?_
  refine x_iconst (v := nI 0) M dL_battery_1 (by decide +kernel) ?_
  refine x_aload0 M dL_battery_2 ?_
  refine x_iload1 M dL_battery_3 ?_
  refine x_callVT M TB hAA mv_X2_battery kw_378 dL_battery_4 hT rfl wl_X rfl rfl ⟨by decide, by decide⟩ ⟨by decide, by decide⟩ (Nat.le_of_ble_eq_true rfl) ?_
  refine x_Tcatch (name := x_IO) M [] ⟨0, 9, 12, 13⟩ [] htab (fun z hz => absurd hz List.not_mem_nil) rfl (by decide) (M.2.2.2.2 _ kw_142) TB.2.2.1.1 (fun q => ?_)
  refine x_astore3 M dL_battery_12 ?_
  refine x_iconst (v := nI 1) M dL_battery_13 (by decide +kernel) ?_
  exact x_iret M hr hlk dL_battery_14 ⟨by decide, by decide⟩ rfl rfl
theorem mv_L_asked : x_MW yL_asked cL_asked 4 (some FieldType.int) [(0, 9, 12, 13)] 3 := ⟨kw_384, kw_16, ⟨by decide +kernel, by decide +kernel⟩, by decide +kernel, kw_383⟩
abbrev rm_L_asked : Room := { frames := 3, cells := 0, slots := 0, locals := 66 }
abbrev rt_L_asked : Room := { frames := 8, cells := 1, slots := 6, locals := 124 }
set_option maxRecDepth 20000 in
set_option maxHeartbeats 2000000 in
theorem h_asked {a : Int32} {r : Int32} {X2 : St} (hC : x_Ret l D kc A yX2_asked cX2_asked 3 (some FieldType.int) rm_X2_asked [.ref (ad 0), .int a] (wl kc ad (X) B th (ov) hw) (some (.int r)) (wl kc ad (X2) B th (ov) hw)) : x_RetW l D kc A yL_asked cL_asked 4 (some FieldType.int) [(0, 9, 12, 13)] rm_L_asked [.ref (ad 0), .int a, .ref (ad 18)] (wl kc ad (X) B th (ov) hw) (some (.int (nI 0))) (wl kc ad (X2) B th (r.toInt64) hw) := by
  refine x_retW_of RL (by decide +kernel) rfl [some (.ref (ad 0)), some (.int a), some (.ref (ad 18)), none] (Nat.le_of_ble_eq_true rfl) rfl rfl ?_
  intro p e s m args below meth c M hr hlk htab TB hAA
  refine x_aload2 M dL_asked_0 ?_
  refine x_iconst (v := nI 0) M dL_asked_1 (by decide +kernel) ?_
  refine x_aload0 M dL_asked_2 ?_
  refine x_iload1 M dL_asked_3 ?_
  refine x_callV0 M TB hAA mv_X2_asked kw_385 dL_asked_4 hC rfl wl_X rfl rfl ⟨by decide, by decide⟩ ⟨by decide, by decide⟩ (Nat.le_of_ble_eq_true rfl) ?_
  refine x_i2l M dL_asked_7 ?_
  refine sQ M TB dL_asked_8 ?_
  refine x_goto (tgt := 15) M dL_asked_9 (by decide) ?_
  refine x_iconst (v := nI 0) M dL_asked_15 (by decide +kernel) ?_
  exact x_iret M hr hlk dL_asked_16 ⟨by decide, by decide⟩ rfl rfl
set_option maxRecDepth 20000 in
set_option maxHeartbeats 2000000 in
theorem h_asked_1 {a : Int32} (hT : x_Thr l D kc A yX2_asked cX2_asked 3 (some FieldType.int) rt_X2_asked [.ref (ad 0), .int a] (wl kc ad (X) B th (ov) hw) x_IO) : x_RetW l D kc A yL_asked cL_asked 4 (some FieldType.int) [(0, 9, 12, 13)] rt_L_asked [.ref (ad 0), .int a, .ref (ad 18)] (wl kc ad (X) B th (ov) hw) (some (.int (nI 1))) (wl kc ad (X) B th (ov) hw) := by
  refine x_retW_of RL (by decide +kernel) rfl [some (.ref (ad 0)), some (.int a), some (.ref (ad 18)), none] (Nat.le_of_ble_eq_true rfl) rfl rfl ?_
  intro p e s m args below meth c M hr hlk htab TB hAA
  refine x_aload2 M dL_asked_0 ?_
  refine x_iconst (v := nI 0) M dL_asked_1 (by decide +kernel) ?_
  refine x_aload0 M dL_asked_2 ?_
  refine x_iload1 M dL_asked_3 ?_
  refine x_callVT M TB hAA mv_X2_asked kw_385 dL_asked_4 hT rfl wl_X rfl rfl ⟨by decide, by decide⟩ ⟨by decide, by decide⟩ (Nat.le_of_ble_eq_true rfl) ?_
  refine x_Tcatch (name := x_IO) M [] ⟨0, 9, 12, 13⟩ [] htab (fun z hz => absurd hz List.not_mem_nil) rfl (by decide) (M.2.2.2.2 _ kw_142) TB.2.2.1.1 (fun q => ?_)
  refine x_astore3 M dL_asked_12 ?_
  refine x_iconst (v := nI 1) M dL_asked_13 (by decide +kernel) ?_
  exact x_iret M hr hlk dL_asked_14 ⟨by decide, by decide⟩ rfl rfl
theorem mv_L_leastEver : x_MW yL_leastEver cL_leastEver 4 (some FieldType.int) [(0, 9, 12, 13)] 3 := ⟨kw_400, kw_16, ⟨by decide +kernel, by decide +kernel⟩, by decide +kernel, kw_399⟩
abbrev rm_L_leastEver : Room := { frames := 3, cells := 0, slots := 0, locals := 66 }
abbrev rt_L_leastEver : Room := { frames := 8, cells := 1, slots := 6, locals := 124 }
set_option maxRecDepth 20000 in
set_option maxHeartbeats 2000000 in
theorem h_leastEver {a : Int32} {r : Int32} {X2 : St} (hC : x_Ret l D kc A yX2_leastEver cX2_leastEver 3 (some FieldType.int) rm_X2_leastEver [.ref (ad 0), .int a] (wl kc ad (X) B th (ov) hw) (some (.int r)) (wl kc ad (X2) B th (ov) hw)) : x_RetW l D kc A yL_leastEver cL_leastEver 4 (some FieldType.int) [(0, 9, 12, 13)] rm_L_leastEver [.ref (ad 0), .int a, .ref (ad 18)] (wl kc ad (X) B th (ov) hw) (some (.int (nI 0))) (wl kc ad (X2) B th (r.toInt64) hw) := by
  refine x_retW_of RL (by decide +kernel) rfl [some (.ref (ad 0)), some (.int a), some (.ref (ad 18)), none] (Nat.le_of_ble_eq_true rfl) rfl rfl ?_
  intro p e s m args below meth c M hr hlk htab TB hAA
  refine x_aload2 M dL_leastEver_0 ?_
  refine x_iconst (v := nI 0) M dL_leastEver_1 (by decide +kernel) ?_
  refine x_aload0 M dL_leastEver_2 ?_
  refine x_iload1 M dL_leastEver_3 ?_
  refine x_callV0 M TB hAA mv_X2_leastEver kw_401 dL_leastEver_4 hC rfl wl_X rfl rfl ⟨by decide, by decide⟩ ⟨by decide, by decide⟩ (Nat.le_of_ble_eq_true rfl) ?_
  refine x_i2l M dL_leastEver_7 ?_
  refine sQ M TB dL_leastEver_8 ?_
  refine x_goto (tgt := 15) M dL_leastEver_9 (by decide) ?_
  refine x_iconst (v := nI 0) M dL_leastEver_15 (by decide +kernel) ?_
  exact x_iret M hr hlk dL_leastEver_16 ⟨by decide, by decide⟩ rfl rfl
set_option maxRecDepth 20000 in
set_option maxHeartbeats 2000000 in
theorem h_leastEver_1 {a : Int32} (hT : x_Thr l D kc A yX2_leastEver cX2_leastEver 3 (some FieldType.int) rt_X2_leastEver [.ref (ad 0), .int a] (wl kc ad (X) B th (ov) hw) x_IO) : x_RetW l D kc A yL_leastEver cL_leastEver 4 (some FieldType.int) [(0, 9, 12, 13)] rt_L_leastEver [.ref (ad 0), .int a, .ref (ad 18)] (wl kc ad (X) B th (ov) hw) (some (.int (nI 1))) (wl kc ad (X) B th (ov) hw) := by
  refine x_retW_of RL (by decide +kernel) rfl [some (.ref (ad 0)), some (.int a), some (.ref (ad 18)), none] (Nat.le_of_ble_eq_true rfl) rfl rfl ?_
  intro p e s m args below meth c M hr hlk htab TB hAA
  refine x_aload2 M dL_leastEver_0 ?_
  refine x_iconst (v := nI 0) M dL_leastEver_1 (by decide +kernel) ?_
  refine x_aload0 M dL_leastEver_2 ?_
  refine x_iload1 M dL_leastEver_3 ?_
  refine x_callVT M TB hAA mv_X2_leastEver kw_401 dL_leastEver_4 hT rfl wl_X rfl rfl ⟨by decide, by decide⟩ ⟨by decide, by decide⟩ (Nat.le_of_ble_eq_true rfl) ?_
  refine x_Tcatch (name := x_IO) M [] ⟨0, 9, 12, 13⟩ [] htab (fun z hz => absurd hz List.not_mem_nil) rfl (by decide) (M.2.2.2.2 _ kw_142) TB.2.2.1.1 (fun q => ?_)
  refine x_astore3 M dL_leastEver_12 ?_
  refine x_iconst (v := nI 1) M dL_leastEver_13 (by decide +kernel) ?_
  exact x_iret M hr hlk dL_leastEver_14 ⟨by decide, by decide⟩ rfl rfl
end XM
end
