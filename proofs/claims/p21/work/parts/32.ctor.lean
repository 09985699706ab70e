/-! the constructors: Label, Memory, GlassLabels -/
set_option linter.unusedVariables false
def zL : List Value := [.int 0, .int 0, .int 0, .int 0, .int 0, .int 0, .int 0, .int 0]
def iL : List Value := [.int (nI 0), .int (nI 0), .int (nI 0), .int (nI 1000), .int (-1), .int (nI 0), .int (nI 0), .int (nI 0)]
abbrev rm_X0_init : Room := { frames := 1, cells := 0, slots := 0, locals := 20 }
abbrev rm_X1_init : Room := { frames := 1, cells := 62, slots := 792, locals := 23 }
abbrev rm_X2_init : Room := { frames := 2, cells := 77, slots := 914, locals := 44 }
theorem mv_X0_init : x_MI yX0_init cX0_init 1 0 := ⟨kw_52, kw_12, ⟨by decide +kernel, by decide +kernel⟩, by decide +kernel, kw_51, rfl⟩
theorem mv_X1_init : x_MI yX1_init cX1_init 2 0 := ⟨kw_34, kw_10, ⟨by decide +kernel, by decide +kernel⟩, by decide +kernel, kw_33, rfl⟩
theorem mv_X2_init : x_MI yX2_init cX2_init 2 0 := ⟨kw_24, kw_9, ⟨by decide +kernel, by decide +kernel⟩, by decide +kernel, kw_23, rfl⟩
section XC
variable {l : Launch} {D : va_G} {kc : Nat → ClassId} {A : Nat → Prop}
set_option maxRecDepth 20000 in
set_option maxHeartbeats 2000000 in
theorem c_L_init {ws : va_W} {q0 h : Nat} (ha : ws[q0]? = some (h, .inr (0, zL))) : x_Ret l D kc A yX0_init cX0_init 1 none rm_X0_init [.ref h] ws none (ws.set q0 (h, .inr (0, iL))) := by
  refine x_ret_of RX0 (by decide +kernel) rfl [some (.ref h)] (Nat.le_of_ble_eq_true rfl) rfl rfl ?_
  intro p e s m args below meth c M hr hlk hnm TB hAA
  refine x_ws (l_set1 ha).symm ?_
  unfold zL iL
  refine x_aload0 M dX0_init_0 ?_
  refine x_objInit M kw_53 dX0_init_1 ⟨by decide, by decide⟩ (by decide) ?_
  refine x_aload0 M dX0_init_4 ?_
  refine x_iconst (v := nI 0) M dX0_init_5 (by decide +kernel) ?_
  refine x_put0s M TB 0 ha (by decide) (by show 0 < 8; decide) rfl (by decide +kernel) kw_54 dX0_init_6 ?_
  refine x_aload0 M dX0_init_9 ?_
  refine x_iconst (v := nI 0) M dX0_init_10 (by decide +kernel) ?_
  refine x_put0s M TB 1 ha (by decide) (by show 1 < 8; decide) rfl (by decide +kernel) kw_56 dX0_init_11 ?_
  refine x_aload0 M dX0_init_14 ?_
  refine x_iconst (v := nI 0) M dX0_init_15 (by decide +kernel) ?_
  refine x_put0s M TB 2 ha (by decide) (by show 2 < 8; decide) rfl (by decide +kernel) kw_58 dX0_init_16 ?_
  refine x_aload0 M dX0_init_19 ?_
  refine x_sipush (v := nI 1000) M dX0_init_20 (by decide +kernel) ?_
  refine x_put0s M TB 3 ha (by decide) (by show 3 < 8; decide) rfl (by decide +kernel) kw_60 dX0_init_23 ?_
  refine x_aload0 M dX0_init_26 ?_
  refine x_iconst (v := (-1)) M dX0_init_27 (by decide +kernel) ?_
  refine x_put0s M TB 4 ha (by decide) (by show 4 < 8; decide) rfl (by decide +kernel) kw_62 dX0_init_28 ?_
  refine x_aload0 M dX0_init_31 ?_
  refine x_iconst (v := nI 0) M dX0_init_32 (by decide +kernel) ?_
  refine x_put0s M TB 5 ha (by decide) (by show 5 < 8; decide) rfl (by decide +kernel) kw_64 dX0_init_33 ?_
  refine x_aload0 M dX0_init_36 ?_
  refine x_iconst (v := nI 0) M dX0_init_37 (by decide +kernel) ?_
  refine x_put0s M TB 6 ha (by decide) (by show 6 < 8; decide) rfl (by decide +kernel) kw_66 dX0_init_38 ?_
  refine x_aload0 M dX0_init_41 ?_
  refine x_iconst (v := nI 0) M dX0_init_42 (by decide +kernel) ?_
  refine x_put0s M TB 7 ha (by decide) (by show 7 < 8; decide) rfl (by decide +kernel) kw_68 dX0_init_43 ?_
  exact x_vret M hr hlk dX0_init_46 ⟨by decide, by decide⟩ rfl rfl
def rowI (k : Nat) : Nat → Int32 := fun j => if j < k then nI 10000 else nI 0
def rows0 (kc : Nat → ClassId) (r : Nat → Nat) (k : Nat) : va_W := (List.range 60).map (fun i => (r i, .inl (kc 0, 12, .inl (if i < k then rowI 12 else fun _ => nI 0))))
def outR (r : Nat → Nat) : Nat → Option Nat := fun i => if i < 60 then some (r i) else none
def memW (kc : Nat → ClassId) (x0 x1 x2 : Nat × va_E) (h q e : Nat) (r : Nat → Nat) (k : Nat) (f : Nat → Int32) : va_W := ([x0, x1, x2, (h, .inr (1, [.ref q, .ref e])), (q, .inl (kc 3, 60, .inr (.inr (.inr (.inr (outR r))))))] ++ rows0 kc r k) ++ [(e, .inl (kc 0, 12, .inl f))]
theorem rows0_0 (kc : Nat → ClassId) (r : Nat → Nat) : rows0 kc r 0 = (List.range 60).map (fun i => (r i, .inl (kc 0, 12, .inl (fun _ => nI 0)))) := by
  unfold rows0
  refine List.map_congr_left fun i _ => ?_
  rw [if_neg (Nat.not_lt_zero i)]
theorem memW_row {kc : Nat → ClassId} {x0 x1 x2 : Nat × va_E} {h q e : Nat} {r : Nat → Nat} {k : Nat} {f : Nat → Int32} (hk : k < 60) : (memW kc x0 x1 x2 h q e r k f)[5 + k]? = some (r k, .inl (kc 0, 12, .inl (fun _ => nI 0))) := by
  unfold memW rows0
  exact (rm_get (i := k) hk rfl).trans (by show some (r k, _) = _; rw [if_neg (Nat.lt_irrefl k)])
theorem memW_set {kc : Nat → ClassId} {x0 x1 x2 : Nat × va_E} {h q e : Nat} {r : Nat → Nat} {k : Nat} {f : Nat → Int32} (hk : k < 60) : (memW kc x0 x1 x2 h q e r k f).set (5 + k) (r k, .inl (kc 0, 12, .inl (fun j => if j < 12 then nI 10000 else (fun _ => nI 0) j))) = memW kc x0 x1 x2 h q e r (k + 1) f := by
  unfold memW rows0
  refine rm_set (i := k) hk rfl ?_ ?_
  · show (r k, _) = _
    rw [if_pos (Nat.lt_succ_self k)]
    rfl
  · intro t ht hne
    show (r t, _) = (r t, _)
    by_cases h : t < k
    · rw [if_pos h, if_pos (by omega)]
    · rw [if_neg h, if_neg (by omega)]
theorem rows0_len (kc : Nat → ClassId) (r : Nat → Nat) (k : Nat) : (rows0 kc r k).length = 60 := by unfold rows0; rw [List.length_map, List.length_range]
theorem memW_e {kc : Nat → ClassId} {x0 x1 x2 : Nat × va_E} {h q e : Nat} {r : Nat → Nat} {k : Nat} {f : Nat → Int32} : (memW kc x0 x1 x2 h q e r k f)[65]? = some (e, .inl (kc 0, 12, .inl f)) := by
  unfold memW
  rw [ap_getk 0 (by rw [List.length_append, rows0_len]; rfl)]
  rfl
theorem memW_sete {kc : Nat → ClassId} {x0 x1 x2 : Nat × va_E} {h q e : Nat} {r : Nat → Nat} {k : Nat} {f : Nat → Int32} : (memW kc x0 x1 x2 h q e r k f).set 65 (e, .inl (kc 0, 12, .inl (fun j => if j < 12 then nI 10000 else f j))) = memW kc x0 x1 x2 h q e r k (fun j => if j < 12 then nI 10000 else f j) := by
  unfold memW
  rw [ap_setk 0 (by rw [List.length_append, rows0_len]; rfl)]
  rfl
set_option maxRecDepth 20000 in
set_option maxHeartbeats 2000000 in
theorem c_M_init {x0 x1 x2 : Nat × va_E} {h : Nat} : x_RetE l D kc A yX1_init cX1_init 2 rm_X1_init [.ref h] [x0, x1, x2, (h, .inr (1, [.null, .null]))] (fun w2 => ∃ q e r, w2 = memW kc x0 x1 x2 h q e r 60 (rowI 12)) := by
  refine x_retE_of RX1 (by decide +kernel) rfl [some (.ref h), none] (Nat.le_of_ble_eq_true rfl) rfl rfl ?_
  intro p e s m args below meth c M hr hlk hnm TB hAA
  have loop : ∀ (d k : Nat) (q en : Nat) (r : Nat → Nat), k + d = 60 → x_X p l e rm_X1_init s m args below meth c D A 2 62 792 (MQ below (x_QE D A (fun w2 => ∃ q e r, w2 = memW kc x0 x1 x2 h q e r 60 (rowI 12))) args s rm_X1_init.cells rm_X1_init.slots A) (memW kc x0 x1 x2 h q en r k (fun _ => nI 0)) 26 [some (.ref h), some (.int (nI k))] [] := by
    intro d
    induction d with
    | zero =>
      intro k q en r hk
      have e : k = 60 := by omega
      subst e
      refine x_iload1 M dX1_init_26 ?_
      refine x_bipush (v := nI 60) M dX1_init_27 (by decide +kernel) ?_
      refine n_icmp_ge (tgt := 50) M (by omega) (by omega) dX1_init_29 (by decide) (fun qq => ?_) (fun qq => absurd qq (by omega))
      refine x_aload0 M dX1_init_50 ?_
      refine x_get1 M TB 1 (q0 := 3) (fs := [.ref q, .ref en]) rfl (by decide) rfl kw_42 dX1_init_51 ?_
      refine x_sipush (v := nI 10000) M dX1_init_54 (by decide +kernel) ?_
      refine x_callS0 M TB hAA mv_J7_fill_53178 kw_38 dX1_init_57 (c_fill memW_e (by decide)) rfl ⟨by decide, by decide⟩ ⟨by decide, by decide⟩ (Nat.le_of_ble_eq_true rfl) ?_
      refine x_ws memW_sete ?_
      exact x_vretE M hr hlk dX1_init_60 ⟨by decide, by decide⟩ ⟨q, en, r, rfl⟩
    | succ d ih =>
      intro k q en r hk
      refine x_iload1 M dX1_init_26 ?_
      refine x_bipush (v := nI 60) M dX1_init_27 (by decide +kernel) ?_
      refine n_icmp_ge (tgt := 50) M (by omega) (by omega) dX1_init_29 (by decide) (fun qq => absurd qq (by omega)) (fun qq => ?_)
      refine x_aload0 M dX1_init_32 ?_
      refine x_get1 M TB 0 (q0 := 3) (fs := [.ref q, .ref en]) rfl (by decide) rfl kw_41 dX1_init_33 ?_
      refine x_iload1 M dX1_init_36 ?_
      refine x_aald M TB (t0 := 3) (q0 := 4) (n := 60) (f := outR r) rfl rfl rfl (by omega) (by decide) dX1_init_37 ?_
      rw [show va_rf (outR r k) = .ref (r k) from by unfold outR; rw [if_pos (by omega)]; rfl]
      refine x_sipush (v := nI 10000) M dX1_init_38 (by decide +kernel) ?_
      refine x_callS0 M TB hAA mv_J7_fill_53178 kw_38 dX1_init_41 (c_fill (memW_row (by omega)) (by decide)) rfl ⟨by decide, by decide⟩ ⟨by decide, by decide⟩ (Nat.le_of_ble_eq_true rfl) ?_
      refine x_ws (memW_set (by omega)) ?_
      refine n_inc1 M dX1_init_44 ?_
      refine x_goto (tgt := 26) M dX1_init_47 (by decide) ?_
      exact ih (k + 1) q en r (by omega)
  refine x_aload0 M dX1_init_0 ?_
  refine x_objInit M kw_35 dX1_init_1 ⟨by decide, by decide⟩ (by decide) ?_
  refine x_aload0 M dX1_init_4 ?_
  refine x_bipush (v := nI 60) M dX1_init_5 (by decide +kernel) ?_
  refine x_bipush (v := nI 12) M dX1_init_7 (by decide +kernel) ?_
  refine x_mna M TB hAA (by decide) (by decide) kw_36 dX1_init_9 ⟨by decide, by decide⟩ (fun q r => ?_)
  refine x_putR1 M TB 0 (q0 := 3) (fs := [.null, .null]) (ty := .array (.array .int)) rfl (by decide) (Nat.le_of_ble_eq_true rfl) rfl hnm rfl (by decide +kernel) rfl rfl kw_41 dX1_init_13 ?_
  refine x_aload0 M dX1_init_16 ?_
  refine x_bipush (v := nI 12) M dX1_init_17 (by decide +kernel) ?_
  refine x_newI M TB hAA (by decide) dX1_init_19 ⟨by decide, by decide⟩ (fun en => ?_)
  refine x_putR1 M TB 1 (q0 := 3) (fs := [.ref q, .null]) (ty := .array .int) rfl (by decide) (Nat.le_of_ble_eq_true rfl) rfl hnm rfl (by decide +kernel) rfl rfl kw_42 dX1_init_21 ?_
  refine x_ws (show _ = memW kc x0 x1 x2 h q en r 0 (fun _ => nI 0) from by unfold memW; rw [rows0_0]; rfl) ?_
  refine x_iconst (v := nI 0) M dX1_init_24 (by decide +kernel) ?_
  refine x_istore1 M dX1_init_25 ?_
  exact loop 60 0 q en r rfl
/-- the class's world after its constructor's loop of k steps: labels lab 0 .. lab (k - 1) -/
def fXi (q1 q2 h : Nat) : List Value := [.ref q1, .ref q2, .ref h, .int (nI 0), .int (nI 0), .int (nI 0)]
def outL (lab : Nat → Nat) (k : Nat) : Nat → Option Nat := fun j => if j < k then some (lab j) else none
def gxB (kc : Nat → ClassId) (x q1 q2 h q e : Nat) (r lab : Nat → Nat) (k : Nat) : va_W := memW kc (x, .inr (2, fXi q1 q2 h)) (q1, .inl (kc 0, 12, .inl (fun _ => nI 0))) (q2, .inl (kc 2, 12, .inr (.inr (.inr (.inr (outL lab k)))))) h q e r 60 (rowI 12)
def labW (lab : Nat → Nat) (k : Nat) : va_W := (List.range k).map (fun i => (lab i, .inr (0, iL)))
def gxW (kc : Nat → ClassId) (x q1 q2 h q e : Nat) (r lab : Nat → Nat) (k : Nat) : va_W := gxB kc x q1 q2 h q e r lab k ++ labW lab k
theorem memW_len {kc : Nat → ClassId} {x0 x1 x2 : Nat × va_E} {h q e : Nat} {r : Nat → Nat} {k : Nat} {f : Nat → Int32} : (memW kc x0 x1 x2 h q e r k f).length = 66 := by
  unfold memW
  rw [List.length_append, List.length_append, rows0_len]
  rfl
theorem gxW_len {kc : Nat → ClassId} {x q1 q2 h q e : Nat} {r lab : Nat → Nat} {k : Nat} : (gxW kc x q1 q2 h q e r lab k).length = 66 + k := by
  unfold gxW gxB labW
  rw [List.length_append, memW_len, List.length_map, List.length_range]
theorem labW_up (lab : Nat → Nat) (k v : Nat) : labW (fun j => if j = k then v else lab j) (k + 1) = labW lab k ++ [(v, .inr (0, iL))] := by
  unfold labW
  rw [List.range_succ, List.map_append]
  congr 1
  · refine List.map_congr_left fun i hi => ?_
    have := List.mem_range.mp hi
    show ((if i = k then v else lab i), _) = _
    rw [if_neg (by omega)]
  · show [((if k = k then v else lab k), _)] = _
    rw [if_pos rfl]
theorem outL_up (lab : Nat → Nat) (k v : Nat) : va_up (outL lab k) k (some v) = outL (fun j => if j = k then v else lab j) (k + 1) := funext fun j => by
  show (if j = k then some v else outL lab k j) = _
  unfold outL
  by_cases h : j = k
  · rw [if_pos h, if_pos (by omega)]
    show some v = some (if j = k then v else lab j)
    rw [if_pos h]
  · rw [if_neg h]
    show (if j < k then some (lab j) else none) = if j < k + 1 then some (if j = k then v else lab j) else none
    rw [if_neg h]
    by_cases h2 : j < k
    · rw [if_pos h2, if_pos (by omega)]
    · rw [if_neg h2, if_neg (by omega)]
theorem gx_step {kc : Nat → ClassId} {x q1 q2 h q e : Nat} {r lab : Nat → Nat} {k v : Nat} : (gxW kc x q1 q2 h q e r lab k ++ [(v, .inr (0, iL))] : va_W).set 2 (q2, .inl (kc 2, 12, .inr (.inr (.inr (.inr (va_up (outL lab k) k (some v))))))) = gxW kc x q1 q2 h q e r (fun j => if j = k then v else lab j) (k + 1) := by
  rw [outL_up]
  unfold gxW
  rw [labW_up, ← List.append_assoc]
  rfl
set_option maxRecDepth 20000 in
set_option maxHeartbeats 2000000 in
theorem c_X_init {x : Nat} : x_RetE l D kc A yX2_init cX2_init 2 rm_X2_init [.ref x] [(x, .inr (2, [.null, .null, .null, .int 0, .int 0, .int 0]))] (fun w2 => ∃ q1 q2 h q e r lab, w2 = gxW kc x q1 q2 h q e r lab 12) := by
  refine x_retE_of RX2 (by decide +kernel) rfl [some (.ref x), none] (Nat.le_of_ble_eq_true rfl) rfl rfl ?_
  intro p e s m args below meth c M hr hlk hnm TB hAA
  have loop : ∀ (d k : Nat) (q1 q2 h q en : Nat) (r lab : Nat → Nat), k + d = 12 → x_X p l e rm_X2_init s m args below meth c D A 2 (65 + k) (818 + 8 * k) (MQ below (x_QE D A (fun w2 => ∃ q1 q2 h q e r lab, w2 = gxW kc x q1 q2 h q e r lab 12)) args s rm_X2_init.cells rm_X2_init.slots A) (gxW kc x q1 q2 h q en r lab k) 49 [some (.ref x), some (.int (nI k))] [] := by
    intro d
    induction d with
    | zero =>
      intro k q1 q2 h q en r lab hk
      have e : k = 12 := by omega
      subst e
      refine x_iload1 M dX2_init_49 ?_
      refine x_bipush (v := nI 12) M dX2_init_50 (by decide +kernel) ?_
      refine n_icmp_ge (tgt := 74) M (by omega) (by omega) dX2_init_52 (by decide) (fun qq => ?_) (fun qq => absurd qq (by omega))
      exact x_vretE M hr hlk dX2_init_74 ⟨by decide, by decide⟩ ⟨q1, q2, h, q, en, r, lab, rfl⟩
    | succ d ih =>
      intro k q1 q2 h q en r lab hk
      refine x_iload1 M dX2_init_49 ?_
      refine x_bipush (v := nI 12) M dX2_init_50 (by decide +kernel) ?_
      refine n_icmp_ge (tgt := 74) M (by omega) (by omega) dX2_init_52 (by decide) (fun qq => absurd qq (by omega)) (fun qq => ?_)
      refine x_aload0 M dX2_init_55 ?_
      refine x_get2 M TB 1 (q0 := 0) (fs := fXi q1 q2 h) rfl (by decide) rfl kw_88 dX2_init_56 ?_
      refine x_iload1 M dX2_init_59 ?_
      refine x_new0 M TB hAA kw_28 dX2_init_60 ⟨by show 65 + k + 1 ≤ 77; omega, by show 818 + 8 * k + 8 ≤ 914; omega⟩ (fun v => ?_)
      refine x_dup M dX2_init_63 rfl ?_
      have hat : (gxW kc x q1 q2 h q en r lab k ++ [(v, .inr (0, [.int 0, .int 0, .int 0, .int 0, .int 0, .int 0, .int 0, .int 0]))] : va_W)[66 + k]? = some (v, .inr (0, zL)) := by
        rw [ap_getk 0 (by rw [gxW_len]; rfl)]
        rfl
      have hset : (gxW kc x q1 q2 h q en r lab k ++ [(v, .inr (0, [.int 0, .int 0, .int 0, .int 0, .int 0, .int 0, .int 0, .int 0]))] : va_W).set (66 + k) (v, .inr (0, iL)) = gxW kc x q1 q2 h q en r lab k ++ [(v, .inr (0, iL))] := by
        rw [ap_setk 0 (by rw [gxW_len]; rfl)]
        rfl
      refine x_callIN (As := []) (rest := [.ref v, .int (nI k), .ref q2]) M TB hAA mv_X0_init TB.2.2.2 dX2_init_64 (c_L_init hat) rfl ⟨by decide, by decide⟩ ⟨⟨rfl, rfl⟩, by show 65 + k + 1 ≤ 77; omega, by show 818 + 8 * k + 8 ≤ 914; omega⟩ (Nat.le_of_ble_eq_true rfl) ?_
      refine x_ws hset ?_
      refine x_aast M TB (q0 := 2) (qk := 66 + k) (n := 12) (f := outL lab k) (vs := iL) rfl (by rw [ap_getk 0 (by rw [gxW_len]; rfl)]; rfl) (by omega) (by decide) dX2_init_67 ?_
      refine x_ws gx_step ?_
      refine n_inc1 M dX2_init_68 ?_
      refine x_goto (tgt := 49) M dX2_init_71 (by decide) ?_
      exact x_widen (by omega) (by omega) (ih (k + 1) q1 q2 h q en r (fun j => if j = k then v else lab j) (by omega))
  refine x_aload0 M dX2_init_0 ?_
  refine x_objInit M kw_25 dX2_init_1 ⟨by decide, by decide⟩ (by decide) ?_
  refine x_aload0 M dX2_init_4 ?_
  refine x_bipush (v := nI 12) M dX2_init_5 (by decide +kernel) ?_
  refine x_newI M TB hAA (by decide) dX2_init_7 ⟨by decide, by decide⟩ (fun q1 => ?_)
  refine x_putR2 M TB 0 (q0 := 0) (fs := [.null, .null, .null, .int 0, .int 0, .int 0]) (ty := .array .int) rfl (by decide) (Nat.le_of_ble_eq_true rfl) rfl hnm rfl (by decide +kernel) rfl rfl kw_87 dX2_init_9 ?_
  refine x_aload0 M dX2_init_12 ?_
  refine x_bipush (v := nI 12) M dX2_init_13 (by decide +kernel) ?_
  refine x_newQ M TB hAA (by decide) kw_28 dX2_init_15 ⟨by decide, by decide⟩ (fun q2 => ?_)
  refine x_putR2 M TB 1 (q0 := 0) (fs := [.ref q1, .null, .null, .int 0, .int 0, .int 0]) (ty := .array (.object "GlassLabels$Label")) rfl (by decide) (Nat.le_of_ble_eq_true rfl) rfl hnm rfl (by decide +kernel) rfl rfl kw_88 dX2_init_18 ?_
  refine x_aload0 M dX2_init_21 ?_
  refine x_new1 M TB hAA kw_30 dX2_init_22 ⟨by decide, by decide⟩ (fun h => ?_)
  refine x_dup M dX2_init_25 rfl ?_
  refine x_callI (As := []) (rest := [.ref h, .ref x]) M TB hAA mv_X1_init kw_32 dX2_init_26 c_M_init rfl ⟨by decide, by decide⟩ ⟨by decide, by decide⟩ (Nat.le_of_ble_eq_true rfl) ?_
  rintro _ ⟨q, en, r, rfl⟩
  refine x_putR2 M TB 2 (q0 := 0) (fs := [.ref q1, .ref q2, .null, .int 0, .int 0, .int 0]) (ty := .object "GlassLabels$Memory") rfl (by decide) (Nat.le_of_ble_eq_true rfl) rfl hnm rfl (by decide +kernel) rfl rfl kw_89 dX2_init_29 ?_
  refine x_aload0 M dX2_init_32 ?_
  refine x_iconst (v := nI 0) M dX2_init_33 (by decide +kernel) ?_
  refine x_put2 M TB 3 (q0 := 0) (fs := [.ref q1, .ref q2, .ref h, .int 0, .int 0, .int 0]) rfl (by decide) (Nat.le_of_ble_eq_true rfl) rfl (by decide +kernel) kw_90 dX2_init_34 ?_
  refine x_aload0 M dX2_init_37 ?_
  refine x_iconst (v := nI 0) M dX2_init_38 (by decide +kernel) ?_
  refine x_put2 M TB 4 (q0 := 0) (fs := [.ref q1, .ref q2, .ref h, .int (nI 0), .int 0, .int 0]) rfl (by decide) (Nat.le_of_ble_eq_true rfl) rfl (by decide +kernel) kw_91 dX2_init_39 ?_
  refine x_aload0 M dX2_init_42 ?_
  refine x_iconst (v := nI 0) M dX2_init_43 (by decide +kernel) ?_
  refine x_put2 M TB 5 (q0 := 0) (fs := [.ref q1, .ref q2, .ref h, .int (nI 0), .int (nI 0), .int 0]) rfl (by decide) (Nat.le_of_ble_eq_true rfl) rfl (by decide +kernel) kw_92 dX2_init_44 ?_
  refine x_ws (show _ = gxW kc x q1 q2 h q en r (fun _ => 0) 0 from ?_) ?_
  · unfold gxW gxB labW
    rw [show outL (fun _ => 0) 0 = (fun _ => none) from funext fun j => if_neg (Nat.not_lt_zero j)]
    exact (List.append_nil _).symm
  refine x_iconst (v := nI 0) M dX2_init_47 (by decide +kernel) ?_
  refine x_istore1 M dX2_init_48 ?_
  exact loop 12 0 q1 q2 h q en r (fun _ => 0) rfl
end XC
