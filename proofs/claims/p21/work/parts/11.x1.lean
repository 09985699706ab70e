/-! the class's methods: digits, redraw, answer, sending, orders -/
section XM
variable {l : Launch} {D : va_G} {kc : Nat → ClassId} {A : Nat → Prop} {ad : Nat → Nat} {X B : St} {hf : Nat → Int64} {ex : va_W}
theorem mv_X0_changedDigits : x_MS yX0_changedDigits cX0_changedDigits 5 (some FieldType.int) 2 := ⟨kw_349, kw_12, ⟨by decide +kernel, by decide +kernel⟩, by decide +kernel, kw_348⟩
abbrev rm_X0_changedDigits : Room := { frames := 0, cells := 0, slots := 0, locals := 0 }
set_option maxRecDepth 20000 in
set_option maxHeartbeats 2000000 in
theorem c_changedDigits {a b : Nat} (ha : a < 2 ^ 30) (hb : b < 2 ^ 30) : x_Ret l D kc A yX0_changedDigits cX0_changedDigits 5 (some FieldType.int) rm_X0_changedDigits [.int (nI a), .int (nI b)] (wl kc ad X B hf ex) (some (.int (nI (digs a b)))) (wl kc ad X B hf ex) := by
  refine x_ret_of RX0 (by decide +kernel) rfl [some (.int (nI a)), some (.int (nI b)), none, none, none] (Nat.le_of_ble_eq_true rfl) rfl rfl ?_
  intro p e s m args below meth c M hr hlk hnm TB hAA
  have hA : a < 2 ^ 31 := by omega
  have hC : b < 2 ^ 31 := by omega
  have J4 : ∀ n0, n0 = digs a b → x_X p l e rm_X0_changedDigits s m args below meth c D A 5 0 0 (MQ below (x_Qc D A (some (.int (nI (digs a b)))) (wl kc ad X B hf ex)) args s rm_X0_changedDigits.cells rm_X0_changedDigits.slots A) (wl kc ad X B hf ex) 7 [some (.int (nI a)), some (.int (nI b)), some (.int (nI n0)), some (.int (nI 10000)), some (.int (nI 4))] [] := by
    intro n0 hc
    refine x_iload4 M dX0_changedDigits_7 ?_
    refine x_iconst (v := nI 4) M dX0_changedDigits_9 (by decide +kernel) ?_
    refine n_icmp_ge (tgt := 42) M (by first | omega | exact hB _ _) (by first | omega | exact hB _ _) dX0_changedDigits_10 (by decide) (fun q10 => ?_) (fun q10 => absurd q10 (by omega))
    refine x_iload2 M dX0_changedDigits_42 ?_
    exact x_iret M hr hlk dX0_changedDigits_43 ⟨by decide, by decide⟩ (by rw [hc]) rfl
  have J3 : ∀ n0, n0 + (dg1 a b 1000) = digs a b → x_X p l e rm_X0_changedDigits s m args below meth c D A 5 0 0 (MQ below (x_Qc D A (some (.int (nI (digs a b)))) (wl kc ad X B hf ex)) args s rm_X0_changedDigits.cells rm_X0_changedDigits.slots A) (wl kc ad X B hf ex) 7 [some (.int (nI a)), some (.int (nI b)), some (.int (nI n0)), some (.int (nI 1000)), some (.int (nI 3))] [] := by
    intro n0 hc
    refine x_iload4 M dX0_changedDigits_7 ?_
    refine x_iconst (v := nI 4) M dX0_changedDigits_9 (by decide +kernel) ?_
    refine n_icmp_ge (tgt := 42) M (by first | omega | exact hB _ _) (by first | omega | exact hB _ _) dX0_changedDigits_10 (by decide) (fun q10 => absurd q10 (by omega)) (fun q10 => ?_)
    refine x_iload0 M dX0_changedDigits_13 ?_
    refine x_iload3 M dX0_changedDigits_14 ?_
    refine n_div M (by first | omega | exact hB _ _) (by omega) (by first | omega | exact hB _ _) dX0_changedDigits_15 ?_
    refine x_bipush (v := nI 10) M dX0_changedDigits_16 (by decide +kernel) ?_
    refine n_rem M (by first | omega | exact hB _ _) (by omega) (by first | omega | exact hB _ _) dX0_changedDigits_18 ?_
    refine x_iload1 M dX0_changedDigits_19 ?_
    refine x_iload3 M dX0_changedDigits_20 ?_
    refine n_div M (by first | omega | exact hB _ _) (by omega) (by first | omega | exact hB _ _) dX0_changedDigits_21 ?_
    refine x_bipush (v := nI 10) M dX0_changedDigits_22 (by decide +kernel) ?_
    refine n_rem M (by first | omega | exact hB _ _) (by omega) (by first | omega | exact hB _ _) dX0_changedDigits_24 ?_
    refine n_icmp_eq (tgt := 31) M (by first | omega | exact hB _ _) (by first | omega | exact hB _ _) dX0_changedDigits_25 (by decide) (fun q25 => ?_) (fun q25 => ?_)
    · refine x_iload3 M dX0_changedDigits_31 ?_
      refine x_bipush (v := nI 10) M dX0_changedDigits_32 (by decide +kernel) ?_
      refine n_mul M dX0_changedDigits_34 ?_
      refine x_istore3 M dX0_changedDigits_35 ?_
      refine n_inc4 M dX0_changedDigits_36 ?_
      refine x_goto (tgt := 7) M dX0_changedDigits_39 (by decide) ?_
      exact J4 n0 (by have e : dg1 a b 1000 = 0 := if_pos q25; omega)
    · refine n_inc2 M dX0_changedDigits_28 ?_
      refine x_iload3 M dX0_changedDigits_31 ?_
      refine x_bipush (v := nI 10) M dX0_changedDigits_32 (by decide +kernel) ?_
      refine n_mul M dX0_changedDigits_34 ?_
      refine x_istore3 M dX0_changedDigits_35 ?_
      refine n_inc4 M dX0_changedDigits_36 ?_
      refine x_goto (tgt := 7) M dX0_changedDigits_39 (by decide) ?_
      exact J4 (n0 + 1) (by have e : dg1 a b 1000 = 1 := if_neg q25; omega)
  have J2 : ∀ n0, n0 + (dg1 a b 100 + dg1 a b 1000) = digs a b → x_X p l e rm_X0_changedDigits s m args below meth c D A 5 0 0 (MQ below (x_Qc D A (some (.int (nI (digs a b)))) (wl kc ad X B hf ex)) args s rm_X0_changedDigits.cells rm_X0_changedDigits.slots A) (wl kc ad X B hf ex) 7 [some (.int (nI a)), some (.int (nI b)), some (.int (nI n0)), some (.int (nI 100)), some (.int (nI 2))] [] := by
    intro n0 hc
    refine x_iload4 M dX0_changedDigits_7 ?_
    refine x_iconst (v := nI 4) M dX0_changedDigits_9 (by decide +kernel) ?_
    refine n_icmp_ge (tgt := 42) M (by first | omega | exact hB _ _) (by first | omega | exact hB _ _) dX0_changedDigits_10 (by decide) (fun q10 => absurd q10 (by omega)) (fun q10 => ?_)
    refine x_iload0 M dX0_changedDigits_13 ?_
    refine x_iload3 M dX0_changedDigits_14 ?_
    refine n_div M (by first | omega | exact hB _ _) (by omega) (by first | omega | exact hB _ _) dX0_changedDigits_15 ?_
    refine x_bipush (v := nI 10) M dX0_changedDigits_16 (by decide +kernel) ?_
    refine n_rem M (by first | omega | exact hB _ _) (by omega) (by first | omega | exact hB _ _) dX0_changedDigits_18 ?_
    refine x_iload1 M dX0_changedDigits_19 ?_
    refine x_iload3 M dX0_changedDigits_20 ?_
    refine n_div M (by first | omega | exact hB _ _) (by omega) (by first | omega | exact hB _ _) dX0_changedDigits_21 ?_
    refine x_bipush (v := nI 10) M dX0_changedDigits_22 (by decide +kernel) ?_
    refine n_rem M (by first | omega | exact hB _ _) (by omega) (by first | omega | exact hB _ _) dX0_changedDigits_24 ?_
    refine n_icmp_eq (tgt := 31) M (by first | omega | exact hB _ _) (by first | omega | exact hB _ _) dX0_changedDigits_25 (by decide) (fun q25 => ?_) (fun q25 => ?_)
    · refine x_iload3 M dX0_changedDigits_31 ?_
      refine x_bipush (v := nI 10) M dX0_changedDigits_32 (by decide +kernel) ?_
      refine n_mul M dX0_changedDigits_34 ?_
      refine x_istore3 M dX0_changedDigits_35 ?_
      refine n_inc4 M dX0_changedDigits_36 ?_
      refine x_goto (tgt := 7) M dX0_changedDigits_39 (by decide) ?_
      exact J3 n0 (by have e : dg1 a b 100 = 0 := if_pos q25; omega)
    · refine n_inc2 M dX0_changedDigits_28 ?_
      refine x_iload3 M dX0_changedDigits_31 ?_
      refine x_bipush (v := nI 10) M dX0_changedDigits_32 (by decide +kernel) ?_
      refine n_mul M dX0_changedDigits_34 ?_
      refine x_istore3 M dX0_changedDigits_35 ?_
      refine n_inc4 M dX0_changedDigits_36 ?_
      refine x_goto (tgt := 7) M dX0_changedDigits_39 (by decide) ?_
      exact J3 (n0 + 1) (by have e : dg1 a b 100 = 1 := if_neg q25; omega)
  have J1 : ∀ n0, n0 + (dg1 a b 10 + dg1 a b 100 + dg1 a b 1000) = digs a b → x_X p l e rm_X0_changedDigits s m args below meth c D A 5 0 0 (MQ below (x_Qc D A (some (.int (nI (digs a b)))) (wl kc ad X B hf ex)) args s rm_X0_changedDigits.cells rm_X0_changedDigits.slots A) (wl kc ad X B hf ex) 7 [some (.int (nI a)), some (.int (nI b)), some (.int (nI n0)), some (.int (nI 10)), some (.int (nI 1))] [] := by
    intro n0 hc
    refine x_iload4 M dX0_changedDigits_7 ?_
    refine x_iconst (v := nI 4) M dX0_changedDigits_9 (by decide +kernel) ?_
    refine n_icmp_ge (tgt := 42) M (by first | omega | exact hB _ _) (by first | omega | exact hB _ _) dX0_changedDigits_10 (by decide) (fun q10 => absurd q10 (by omega)) (fun q10 => ?_)
    refine x_iload0 M dX0_changedDigits_13 ?_
    refine x_iload3 M dX0_changedDigits_14 ?_
    refine n_div M (by first | omega | exact hB _ _) (by omega) (by first | omega | exact hB _ _) dX0_changedDigits_15 ?_
    refine x_bipush (v := nI 10) M dX0_changedDigits_16 (by decide +kernel) ?_
    refine n_rem M (by first | omega | exact hB _ _) (by omega) (by first | omega | exact hB _ _) dX0_changedDigits_18 ?_
    refine x_iload1 M dX0_changedDigits_19 ?_
    refine x_iload3 M dX0_changedDigits_20 ?_
    refine n_div M (by first | omega | exact hB _ _) (by omega) (by first | omega | exact hB _ _) dX0_changedDigits_21 ?_
    refine x_bipush (v := nI 10) M dX0_changedDigits_22 (by decide +kernel) ?_
    refine n_rem M (by first | omega | exact hB _ _) (by omega) (by first | omega | exact hB _ _) dX0_changedDigits_24 ?_
    refine n_icmp_eq (tgt := 31) M (by first | omega | exact hB _ _) (by first | omega | exact hB _ _) dX0_changedDigits_25 (by decide) (fun q25 => ?_) (fun q25 => ?_)
    · refine x_iload3 M dX0_changedDigits_31 ?_
      refine x_bipush (v := nI 10) M dX0_changedDigits_32 (by decide +kernel) ?_
      refine n_mul M dX0_changedDigits_34 ?_
      refine x_istore3 M dX0_changedDigits_35 ?_
      refine n_inc4 M dX0_changedDigits_36 ?_
      refine x_goto (tgt := 7) M dX0_changedDigits_39 (by decide) ?_
      exact J2 n0 (by have e : dg1 a b 10 = 0 := if_pos q25; omega)
    · refine n_inc2 M dX0_changedDigits_28 ?_
      refine x_iload3 M dX0_changedDigits_31 ?_
      refine x_bipush (v := nI 10) M dX0_changedDigits_32 (by decide +kernel) ?_
      refine n_mul M dX0_changedDigits_34 ?_
      refine x_istore3 M dX0_changedDigits_35 ?_
      refine n_inc4 M dX0_changedDigits_36 ?_
      refine x_goto (tgt := 7) M dX0_changedDigits_39 (by decide) ?_
      exact J2 (n0 + 1) (by have e : dg1 a b 10 = 1 := if_neg q25; omega)
  have J0 : ∀ n0, n0 + (dg1 a b 1 + dg1 a b 10 + dg1 a b 100 + dg1 a b 1000) = digs a b → x_X p l e rm_X0_changedDigits s m args below meth c D A 5 0 0 (MQ below (x_Qc D A (some (.int (nI (digs a b)))) (wl kc ad X B hf ex)) args s rm_X0_changedDigits.cells rm_X0_changedDigits.slots A) (wl kc ad X B hf ex) 7 [some (.int (nI a)), some (.int (nI b)), some (.int (nI n0)), some (.int (nI 1)), some (.int (nI 0))] [] := by
    intro n0 hc
    refine x_iload4 M dX0_changedDigits_7 ?_
    refine x_iconst (v := nI 4) M dX0_changedDigits_9 (by decide +kernel) ?_
    refine n_icmp_ge (tgt := 42) M (by first | omega | exact hB _ _) (by first | omega | exact hB _ _) dX0_changedDigits_10 (by decide) (fun q10 => absurd q10 (by omega)) (fun q10 => ?_)
    refine x_iload0 M dX0_changedDigits_13 ?_
    refine x_iload3 M dX0_changedDigits_14 ?_
    refine n_div M (by first | omega | exact hB _ _) (by omega) (by first | omega | exact hB _ _) dX0_changedDigits_15 ?_
    refine x_bipush (v := nI 10) M dX0_changedDigits_16 (by decide +kernel) ?_
    refine n_rem M (by first | omega | exact hB _ _) (by omega) (by first | omega | exact hB _ _) dX0_changedDigits_18 ?_
    refine x_iload1 M dX0_changedDigits_19 ?_
    refine x_iload3 M dX0_changedDigits_20 ?_
    refine n_div M (by first | omega | exact hB _ _) (by omega) (by first | omega | exact hB _ _) dX0_changedDigits_21 ?_
    refine x_bipush (v := nI 10) M dX0_changedDigits_22 (by decide +kernel) ?_
    refine n_rem M (by first | omega | exact hB _ _) (by omega) (by first | omega | exact hB _ _) dX0_changedDigits_24 ?_
    refine n_icmp_eq (tgt := 31) M (by first | omega | exact hB _ _) (by first | omega | exact hB _ _) dX0_changedDigits_25 (by decide) (fun q25 => ?_) (fun q25 => ?_)
    · refine x_iload3 M dX0_changedDigits_31 ?_
      refine x_bipush (v := nI 10) M dX0_changedDigits_32 (by decide +kernel) ?_
      refine n_mul M dX0_changedDigits_34 ?_
      refine x_istore3 M dX0_changedDigits_35 ?_
      refine n_inc4 M dX0_changedDigits_36 ?_
      refine x_goto (tgt := 7) M dX0_changedDigits_39 (by decide) ?_
      exact J1 n0 (by have e : dg1 a b 1 = 0 := if_pos q25; omega)
    · refine n_inc2 M dX0_changedDigits_28 ?_
      refine x_iload3 M dX0_changedDigits_31 ?_
      refine x_bipush (v := nI 10) M dX0_changedDigits_32 (by decide +kernel) ?_
      refine n_mul M dX0_changedDigits_34 ?_
      refine x_istore3 M dX0_changedDigits_35 ?_
      refine n_inc4 M dX0_changedDigits_36 ?_
      refine x_goto (tgt := 7) M dX0_changedDigits_39 (by decide) ?_
      exact J1 (n0 + 1) (by have e : dg1 a b 1 = 1 := if_neg q25; omega)
  refine x_iconst (v := nI 0) M dX0_changedDigits_0 (by decide +kernel) ?_
  refine x_istore2 M dX0_changedDigits_1 ?_
  refine x_iconst (v := nI 1) M dX0_changedDigits_2 (by decide +kernel) ?_
  refine x_istore3 M dX0_changedDigits_3 ?_
  refine x_iconst (v := nI 0) M dX0_changedDigits_4 (by decide +kernel) ?_
  refine x_istore4 M dX0_changedDigits_5 ?_
  exact J0 0 (by unfold digs; omega)
theorem digs_0 {a b : Nat} (ha : a < 10000) (hb : b < 10000) : digs a b = 0 ↔ a = b := by
  unfold digs dg1
  constructor
  · intro h
    split at h <;> split at h <;> split at h <;> split at h <;> omega
  · intro h
    subst h
    simp
theorem digs_4 (a b : Nat) : digs a b ≤ 4 := by
  unfold digs dg1
  split <;> split <;> split <;> split <;> omega
theorem Bd_up {S : St} (h : Bd S) {r i v : Nat} (hv : v < 2 ^ 30) : Bd (up S r i v) := fun r2 i2 => by
  unfold up
  split
  · exact hv
  · exact h r2 i2
theorem Bd_redr {S : St} (h : Bd S) (i : Nat) (hg : S 4 i < 2 ^ 20) : Bd (redr S i) := by
  have h4 := digs_4 (S 3 i) (S 1 (S 2 i))
  have h5 := h 5 i
  unfold redr
  split
  · exact h
  · split
    · exact Bd_up (Bd_up (Bd_up h (by omega)) (by decide)) (h _ _)
    · exact Bd_up (Bd_up (Bd_up h (by omega)) (by omega)) (h _ _)
theorem mv_X0_redraw : x_MV yX0_redraw cX0_redraw 3 none 1 := ⟨kw_346, kw_12, ⟨by decide +kernel, by decide +kernel⟩, by decide +kernel, kw_345, kw_5⟩
abbrev rm_X0_redraw : Room := { frames := 1, cells := 0, slots := 0, locals := 24 }
set_option maxRecDepth 20000 in
set_option maxHeartbeats 2000000 in
theorem c_redraw (hB0 : Bd X) {i : Nat} (hi : i < 12) (hp : X 1 (X 2 i) < 10000) (hs : X 3 i < 10000) (h20 : 20 ≤ X 5 i) : x_Ret l D kc A yX0_redraw cX0_redraw 3 none rm_X0_redraw [.ref (ad (8 + i)), .int (nI (X 1 (X 2 i)))] (wl kc ad X B hf ex) (none) (wl kc ad (redr X i) B hf ex) := by
  refine x_ret_of RX0 (by decide +kernel) rfl [some (.ref (ad (8 + i))), some (.int (nI (X 1 (X 2 i)))), none] (Nat.le_of_ble_eq_true rfl) rfl rfl ?_
  intro p e s m args below meth c M hr hlk hnm TB hAA
  have hB : ∀ r i, X r i < 2 ^ 31 := fun r i => Nat.lt_trans (hB0 r i) (by decide)
  have h4 := digs_4 (X 3 i) (X 1 (X 2 i))
  have hg := hB0 4 i
  refine x_iload1 M dX0_redraw_0 ?_
  refine x_aload0 M dX0_redraw_1 ?_
  refine gL1 M TB (by omega) kw_56 dX0_redraw_2 ?_
  refine n_icmp_ne (tgt := 9) M (by first | omega | exact hB _ _) (by first | omega | exact hB _ _) dX0_redraw_5 (by decide) (fun q5 => ?_) (fun q5 => ?_)
  · refine x_aload0 M dX0_redraw_9 ?_
    refine gL2 M TB (by omega) kw_58 dX0_redraw_10 ?_
    refine x_aload0 M dX0_redraw_13 ?_
    refine gL1 M TB (by omega) kw_56 dX0_redraw_14 ?_
    refine x_iload1 M dX0_redraw_17 ?_
    refine x_callS0 M TB hAA mv_X0_changedDigits kw_347 dX0_redraw_18 (c_changedDigits (hB0 _ _) (hB0 _ _)) rfl ⟨by decide, by decide⟩ ⟨by decide, by decide⟩ (Nat.le_of_ble_eq_true rfl) ?_
    refine n_add M dX0_redraw_21 ?_
    refine x_istore2 M dX0_redraw_22 ?_
    refine x_iload2 M dX0_redraw_23 ?_
    refine x_bipush (v := nI 9) M dX0_redraw_24 (by decide +kernel) ?_
    refine n_icmp_le (tgt := 48) M (by first | omega | exact hB _ _) (by first | omega | exact hB _ _) dX0_redraw_26 (by decide) (fun q26 => ?_) (fun q26 => ?_)
    · refine x_aload0 M dX0_redraw_48 ?_
      refine x_dup M dX0_redraw_49 rfl ?_
      refine gL3 M TB (by omega) kw_60 dX0_redraw_50 ?_
      refine x_bipush (v := nI 10) M dX0_redraw_53 (by decide +kernel) ?_
      refine n_sub M (by omega) dX0_redraw_55 ?_
      refine pL3 M TB (by omega) kw_60 dX0_redraw_56 ?_
      refine x_aload0 M dX0_redraw_59 ?_
      refine x_iload2 M dX0_redraw_60 ?_
      refine pL2 M TB (by omega) kw_58 dX0_redraw_61 ?_
      refine x_aload0 M dX0_redraw_64 ?_
      refine x_iload1 M dX0_redraw_65 ?_
      refine pL1 M TB (by omega) kw_56 dX0_redraw_66 ?_
      exact x_vret M hr hlk dX0_redraw_69 ⟨by decide, by decide⟩ rfl (by rw [redr, if_neg (fun h => q5 ((digs_0 hs hp).mp h).symm), if_neg (by omega)])
    · refine x_aload0 M dX0_redraw_29 ?_
      refine x_dup M dX0_redraw_30 rfl ?_
      refine gL3 M TB (by omega) kw_60 dX0_redraw_31 ?_
      refine x_bipush (v := nI 20) M dX0_redraw_34 (by decide +kernel) ?_
      refine n_sub M (by omega) dX0_redraw_36 ?_
      refine pL3 M TB (by omega) kw_60 dX0_redraw_37 ?_
      refine x_aload0 M dX0_redraw_40 ?_
      refine x_iconst (v := nI 0) M dX0_redraw_41 (by decide +kernel) ?_
      refine pL2 M TB (by omega) kw_58 dX0_redraw_42 ?_
      refine x_goto (tgt := 64) M dX0_redraw_45 (by decide) ?_
      refine x_aload0 M dX0_redraw_64 ?_
      refine x_iload1 M dX0_redraw_65 ?_
      refine pL1 M TB (by omega) kw_56 dX0_redraw_66 ?_
      exact x_vret M hr hlk dX0_redraw_69 ⟨by decide, by decide⟩ rfl (by rw [redr, if_neg (fun h => q5 ((digs_0 hs hp).mp h).symm), if_pos q26])
  · exact x_vret M hr hlk dX0_redraw_8 ⟨by decide, by decide⟩ rfl (by rw [redr, if_pos ((digs_0 hs hp).mpr q5.symm)])
theorem mv_X0_answer : x_MV yX0_answer cX0_answer 1 none 0 := ⟨kw_353, kw_12, ⟨by decide +kernel, by decide +kernel⟩, by decide +kernel, kw_352, kw_6⟩
abbrev rm_X0_answer : Room := { frames := 0, cells := 0, slots := 0, locals := 0 }
set_option maxRecDepth 20000 in
set_option maxHeartbeats 2000000 in
theorem c_answer (hB0 : Bd X) {i : Nat} (hi : i < 12) : x_Ret l D kc A yX0_answer cX0_answer 1 none rm_X0_answer [.ref (ad (8 + i))] (wl kc ad X B hf ex) (none) (wl kc ad (answ X i) B hf ex) := by
  refine x_ret_of RX0 (by decide +kernel) rfl [some (.ref (ad (8 + i)))] (Nat.le_of_ble_eq_true rfl) rfl rfl ?_
  intro p e s m args below meth c M hr hlk hnm TB hAA
  have hB : ∀ r i, X r i < 2 ^ 31 := fun r i => Nat.lt_trans (hB0 r i) (by decide)
  refine x_aload0 M dX0_answer_0 ?_
  refine gL7 M TB (by omega) kw_68 dX0_answer_1 ?_
  refine n_if_le (tgt := 20) M (by first | omega | exact hB _ _) dX0_answer_4 (by decide) (fun q4 => ?_) (fun q4 => ?_)
  · refine x_aload0 M dX0_answer_20 ?_
    refine x_iconst (v := (-1)) M dX0_answer_21 (by decide +kernel) ?_
    refine pL4 (v := 0) M TB (by omega) rfl kw_62 dX0_answer_22 ?_
    exact x_vret M hr hlk dX0_answer_25 ⟨by decide, by decide⟩ rfl (by rw [answ, if_neg (by omega)])
  · refine x_aload0 M dX0_answer_7 ?_
    refine x_dup M dX0_answer_8 rfl ?_
    refine gL7 M TB (by omega) kw_68 dX0_answer_9 ?_
    refine x_iconst (v := nI 1) M dX0_answer_12 (by decide +kernel) ?_
    refine n_sub M (by omega) dX0_answer_13 ?_
    refine pL7 M TB (by omega) kw_68 dX0_answer_14 ?_
    refine x_goto (tgt := 25) M dX0_answer_17 (by decide) ?_
    exact x_vret M hr hlk dX0_answer_25 ⟨by decide, by decide⟩ rfl (by rw [answ, if_pos q4])
theorem mv_X0_getSending : x_MV yX0_getSending cX0_getSending 3 none 2 := ⟨kw_342, kw_12, ⟨by decide +kernel, by decide +kernel⟩, by decide +kernel, kw_340, kw_341⟩
abbrev rm_X0_getSending : Room := { frames := 2, cells := 0, slots := 0, locals := 46 }
set_option maxRecDepth 20000 in
set_option maxHeartbeats 2000000 in
theorem c_getSending (hB0 : Bd X) {i : Nat} (hi : i < 12) (ht : X 0 1 < 2 ^ 20) (hp : X 1 (X 2 i) < 10000) (hs : X 3 i < 10000) (hg : X 4 i < 2 ^ 20) : x_Ret l D kc A yX0_getSending cX0_getSending 3 none rm_X0_getSending [.ref (ad (8 + i)), .int (nI (X 1 (X 2 i))), .int (nI (X 0 1))] (wl kc ad X B hf ex) (none) (wl kc ad (sen X i) B hf ex) := by
  refine x_ret_of RX0 (by decide +kernel) rfl [some (.ref (ad (8 + i))), some (.int (nI (X 1 (X 2 i)))), some (.int (nI (X 0 1)))] (Nat.le_of_ble_eq_true rfl) rfl rfl ?_
  intro p e s m args below meth c M hr hlk hnm TB hAA
  have hB : ∀ r i, X r i < 2 ^ 31 := fun r i => Nat.lt_trans (hB0 r i) (by decide)
  have hY : Bd (up X 9 i (X 0 1 + 5)) := Bd_up hB0 (by omega)
  refine x_aload0 M dX0_getSending_0 ?_
  refine x_iload2 M dX0_getSending_1 ?_
  refine x_iconst (v := nI 5) M dX0_getSending_2 (by decide +kernel) ?_
  refine n_add M dX0_getSending_3 ?_
  refine pL5 M TB (by omega) kw_64 dX0_getSending_4 ?_
  refine x_aload0 M dX0_getSending_7 ?_
  refine gL6 M TB (by omega) kw_66 dX0_getSending_8 ?_
  refine n_if_le (tgt := 27) M (by first | omega | exact hB _ _) dX0_getSending_11 (by decide) (fun q11 => ?_) (fun q11 => ?_)
  · refine x_aload0 M dX0_getSending_27 ?_
    refine gL3 M TB (by omega) kw_60 dX0_getSending_28 ?_
    refine x_bipush (v := nI 20) M dX0_getSending_31 (by decide +kernel) ?_
    refine n_icmp_lt (tgt := 45) M (by first | omega | exact hB _ _) (by first | omega | exact hB _ _) dX0_getSending_33 (by decide) (fun q33 => ?_) (fun q33 => ?_)
    · exact x_vret M hr hlk dX0_getSending_45 ⟨by decide, by decide⟩ rfl (by rw [sen, sen1, if_neg (by omega), if_neg (by omega)])
    · refine x_aload0 M dX0_getSending_36 ?_
      refine x_iload1 M dX0_getSending_37 ?_
      refine x_callV0 M TB hAA mv_X0_redraw kw_343 dX0_getSending_38 (c_redraw (X := (up X 9 i (X 0 1 + 5))) hY hi hp hs q33) rfl (wl_lab hi) rfl rfl ⟨by decide, by decide⟩ ⟨by decide, by decide⟩ (Nat.le_of_ble_eq_true rfl) ?_
      refine x_aload0 M dX0_getSending_41 ?_
      refine x_callV0 M TB hAA mv_X0_answer kw_350 dX0_getSending_42 (c_answer (X := redr (up X 9 i (X 0 1 + 5)) i) (Bd_redr hY i hg) hi) rfl (wl_lab hi) rfl rfl ⟨by decide, by decide⟩ ⟨by decide, by decide⟩ (Nat.le_of_ble_eq_true rfl) ?_
      exact x_vret M hr hlk dX0_getSending_45 ⟨by decide, by decide⟩ rfl (by rw [sen, sen1, if_neg (by omega), if_pos q33])
  · refine x_aload0 M dX0_getSending_14 ?_
    refine x_dup M dX0_getSending_15 rfl ?_
    refine gL6 M TB (by omega) kw_66 dX0_getSending_16 ?_
    refine x_iconst (v := nI 1) M dX0_getSending_19 (by decide +kernel) ?_
    refine n_sub M (by omega) dX0_getSending_20 ?_
    refine pL6 M TB (by omega) kw_66 dX0_getSending_21 ?_
    refine x_goto (tgt := 45) M dX0_getSending_24 (by decide) ?_
    exact x_vret M hr hlk dX0_getSending_45 ⟨by decide, by decide⟩ rfl (by rw [sen, sen1, if_pos q11])
theorem mv_X2_giveOrder : x_MV yX2_giveOrder cX2_giveOrder 2 none 1 := ⟨kw_304, kw_9, ⟨by decide +kernel, by decide +kernel⟩, by decide +kernel, kw_303, kw_3⟩
abbrev rm_X2_giveOrder : Room := { frames := 0, cells := 0, slots := 0, locals := 0 }
set_option maxRecDepth 20000 in
set_option maxHeartbeats 2000000 in
theorem c_giveOrder (hB0 : Bd X) {i : Nat} (hi : i < 12) : x_Ret l D kc A yX2_giveOrder cX2_giveOrder 2 none rm_X2_giveOrder [.ref (ad 0), .ref (ad (8 + i))] (wl kc ad X B hf ex) (none) (wl kc ad (gets X i) B hf ex) := by
  refine x_ret_of RX2 (by decide +kernel) rfl [some (.ref (ad 0)), some (.ref (ad (8 + i)))] (Nat.le_of_ble_eq_true rfl) rfl rfl ?_
  intro p e s m args below meth c M hr hlk hnm TB hAA
  have hB : ∀ r i, X r i < 2 ^ 31 := fun r i => Nat.lt_trans (hB0 r i) (by decide)
  refine x_aload0 M dX2_giveOrder_0 ?_
  refine x_dup M dX2_giveOrder_1 rfl ?_
  refine gX5 M TB kw_92 dX2_giveOrder_2 ?_
  refine x_iconst (v := nI 1) M dX2_giveOrder_5 (by decide +kernel) ?_
  refine n_add M dX2_giveOrder_6 ?_
  refine pX5 M TB kw_92 dX2_giveOrder_7 ?_
  refine x_aload1 M dX2_giveOrder_10 ?_
  refine x_aload0 M dX2_giveOrder_11 ?_
  refine gX5 M TB kw_92 dX2_giveOrder_12 ?_
  refine pL4 (v := X 0 2 + 1) M TB (by omega) (eo_n (by omega)) kw_63 dX2_giveOrder_15 ?_
  refine x_aload1 M dX2_giveOrder_18 ?_
  refine x_aload0 M dX2_giveOrder_19 ?_
  refine gX4 M TB kw_91 dX2_giveOrder_20 ?_
  refine pL5 M TB (by omega) kw_65 dX2_giveOrder_23 ?_
  exact x_vret M hr hlk dX2_giveOrder_26 ⟨by decide, by decide⟩ rfl rfl
end XM
