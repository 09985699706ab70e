/-! THE LAW's METHODS: draw, changed, leastNow -/
section XM
variable {l : Launch} {D : va_G} {kc : Nat → ClassId} {A : Nat → Prop} {ad : Nat → Nat} {X B : St} {hf : Nat → Int64} {ex : va_W}
theorem mv_L_draw : x_MS yL_draw cL_draw 2 (some FieldType.int) 2 := ⟨kw_223, kw_8, ⟨by decide +kernel, by decide +kernel⟩, by decide +kernel, kw_222⟩
abbrev rm_L_draw : Room := { frames := 0, cells := 0, slots := 0, locals := 0 }
def drw (xs : Nat → Int32) (L k : Nat) : Nat := if k < L then (xs k).toBitVec.toNat % 2 ^ 31 else 104729 * (k + 2) % 65521
theorem drw_lt (xs : Nat → Int32) (L k : Nat) : drw xs L k < 2 ^ 31 := by
  unfold drw
  split
  · exact Nat.mod_lt _ (by decide)
  · omega
set_option maxRecDepth 20000 in
set_option maxHeartbeats 2000000 in
theorem l_draw {ws : va_W} {b L k : Nat} {xs : Nat → Int32} (hk : k < 1000) (hL : L ≤ 260) : x_RetX l D kc A yL_draw cL_draw 2 (some FieldType.int) rm_L_draw [.ref b, .int (nI k)] ws b L xs (some (.int (nI (drw xs L k)))) ws := by
  refine x_retX_of RL (by decide +kernel) rfl [some (.ref b), some (.int (nI k))] (Nat.le_of_ble_eq_true rfl) rfl rfl ?_
  intro p e s m args below meth c M hr hlk hnm TB hAA hX hbl hbA
  refine x_iload1 M dL_draw_0 ?_
  refine x_aload0 M dL_draw_1 ?_
  refine x_slen M hX hbl hbA dL_draw_2 ?_
  refine n_icmp_ge (tgt := 15) M (by first | omega | exact hB _ _ | exact hC _ _) (by first | omega | exact hB _ _ | exact hC _ _) dL_draw_3 (by decide) (fun q3 => ?_) (fun q3 => ?_)
  · refine x_ldc (v := nI 104729) M kw_225 dL_draw_15 ?_
    refine x_iload1 M dL_draw_17 ?_
    refine x_iconst (v := nI 2) M dL_draw_18 (by decide +kernel) ?_
    refine n_add M dL_draw_19 ?_
    refine n_mul M dL_draw_20 ?_
    refine x_ldc (v := nI 65521) M kw_226 dL_draw_21 ?_
    refine n_rem M (by first | omega | exact hB _ _ | exact hC _ _) (by omega) (by first | omega | exact hB _ _ | exact hC _ _) dL_draw_23 ?_
    exact x_iret M hr hlk dL_draw_24 ⟨by decide, by decide⟩ (by unfold drw; rw [if_neg (by omega)]) rfl
  · refine x_aload0 M dL_draw_6 ?_
    refine x_iload1 M dL_draw_7 ?_
    refine x_sld (j := k) M hX hbl hbA rfl q3 hL dL_draw_8 ?_
    refine x_ldc (v := (2147483647 : Int32)) M kw_224 dL_draw_9 ?_
    refine x_iand M dL_draw_11 (pk_and (xs k) 31 (by decide +kernel)) ?_
    refine x_goto (tgt := 24) M dL_draw_12 (by decide) ?_
    exact x_iret M hr hlk dL_draw_24 ⟨by decide, by decide⟩ (by unfold drw; rw [if_pos q3]) rfl
theorem mv_L_changed : x_MS yL_changed cL_changed 2 (some FieldType.int) 2 := ⟨kw_372, kw_8, ⟨by decide +kernel, by decide +kernel⟩, by decide +kernel, kw_371⟩
abbrev rm_L_changed : Room := { frames := 0, cells := 0, slots := 0, locals := 0 }
set_option maxRecDepth 20000 in
set_option maxHeartbeats 2000000 in
theorem l_changed {a b : Nat} (ha : a < 10000) (hb : b < 10000) : x_Ret l D kc A yL_changed cL_changed 2 (some FieldType.int) rm_L_changed [.int (nI a), .int (nI b)] (wl kc ad X B hf ex) (some (.int (nI (digs a b)))) (wl kc ad X B hf ex) := by
  refine x_ret_of RL (by decide +kernel) rfl [some (.int (nI a)), some (.int (nI b))] (Nat.le_of_ble_eq_true rfl) rfl rfl ?_
  intro p e s m args below meth c M hr hlk hnm TB hAA
  refine x_iload0 M dL_changed_0 ?_
  refine x_bipush (v := nI 10) M dL_changed_1 (by decide +kernel) ?_
  refine n_rem M (by first | omega | exact hB _ _ | exact hC _ _) (by omega) (by first | omega | exact hB _ _ | exact hC _ _) dL_changed_3 ?_
  refine x_iload1 M dL_changed_4 ?_
  refine x_bipush (v := nI 10) M dL_changed_5 (by decide +kernel) ?_
  refine n_rem M (by first | omega | exact hB _ _ | exact hC _ _) (by omega) (by first | omega | exact hB _ _ | exact hC _ _) dL_changed_7 ?_
  refine n_icmp_eq (tgt := 15) M (by first | omega | exact hB _ _ | exact hC _ _) (by first | omega | exact hB _ _ | exact hC _ _) dL_changed_8 (by decide) (fun q8 => ?_) (fun q8 => ?_)
  · refine x_iconst (v := nI 0) M dL_changed_15 (by decide +kernel) ?_
    refine x_iload0 M dL_changed_16 ?_
    refine x_bipush (v := nI 10) M dL_changed_17 (by decide +kernel) ?_
    refine n_div M (by first | omega | exact hB _ _ | exact hC _ _) (by omega) (by first | omega | exact hB _ _ | exact hC _ _) dL_changed_19 ?_
    refine x_bipush (v := nI 10) M dL_changed_20 (by decide +kernel) ?_
    refine n_rem M (by first | omega | exact hB _ _ | exact hC _ _) (by omega) (by first | omega | exact hB _ _ | exact hC _ _) dL_changed_22 ?_
    refine x_iload1 M dL_changed_23 ?_
    refine x_bipush (v := nI 10) M dL_changed_24 (by decide +kernel) ?_
    refine n_div M (by first | omega | exact hB _ _ | exact hC _ _) (by omega) (by first | omega | exact hB _ _ | exact hC _ _) dL_changed_26 ?_
    refine x_bipush (v := nI 10) M dL_changed_27 (by decide +kernel) ?_
    refine n_rem M (by first | omega | exact hB _ _ | exact hC _ _) (by omega) (by first | omega | exact hB _ _ | exact hC _ _) dL_changed_29 ?_
    refine n_icmp_eq (tgt := 37) M (by first | omega | exact hB _ _ | exact hC _ _) (by first | omega | exact hB _ _ | exact hC _ _) dL_changed_30 (by decide) (fun q30 => ?_) (fun q30 => ?_)
    · refine x_iconst (v := nI 0) M dL_changed_37 (by decide +kernel) ?_
      refine n_add M dL_changed_38 ?_
      refine x_iload0 M dL_changed_39 ?_
      refine x_bipush (v := nI 100) M dL_changed_40 (by decide +kernel) ?_
      refine n_div M (by first | omega | exact hB _ _ | exact hC _ _) (by omega) (by first | omega | exact hB _ _ | exact hC _ _) dL_changed_42 ?_
      refine x_bipush (v := nI 10) M dL_changed_43 (by decide +kernel) ?_
      refine n_rem M (by first | omega | exact hB _ _ | exact hC _ _) (by omega) (by first | omega | exact hB _ _ | exact hC _ _) dL_changed_45 ?_
      refine x_iload1 M dL_changed_46 ?_
      refine x_bipush (v := nI 100) M dL_changed_47 (by decide +kernel) ?_
      refine n_div M (by first | omega | exact hB _ _ | exact hC _ _) (by omega) (by first | omega | exact hB _ _ | exact hC _ _) dL_changed_49 ?_
      refine x_bipush (v := nI 10) M dL_changed_50 (by decide +kernel) ?_
      refine n_rem M (by first | omega | exact hB _ _ | exact hC _ _) (by omega) (by first | omega | exact hB _ _ | exact hC _ _) dL_changed_52 ?_
      refine n_icmp_eq (tgt := 60) M (by first | omega | exact hB _ _ | exact hC _ _) (by first | omega | exact hB _ _ | exact hC _ _) dL_changed_53 (by decide) (fun q53 => ?_) (fun q53 => ?_)
      · refine x_iconst (v := nI 0) M dL_changed_60 (by decide +kernel) ?_
        refine n_add M dL_changed_61 ?_
        refine x_iload0 M dL_changed_62 ?_
        refine x_sipush (v := nI 1000) M dL_changed_63 (by decide +kernel) ?_
        refine n_div M (by first | omega | exact hB _ _ | exact hC _ _) (by omega) (by first | omega | exact hB _ _ | exact hC _ _) dL_changed_66 ?_
        refine x_iload1 M dL_changed_67 ?_
        refine x_sipush (v := nI 1000) M dL_changed_68 (by decide +kernel) ?_
        refine n_div M (by first | omega | exact hB _ _ | exact hC _ _) (by omega) (by first | omega | exact hB _ _ | exact hC _ _) dL_changed_71 ?_
        refine n_icmp_eq (tgt := 79) M (by first | omega | exact hB _ _ | exact hC _ _) (by first | omega | exact hB _ _ | exact hC _ _) dL_changed_72 (by decide) (fun q72 => ?_) (fun q72 => ?_)
        · refine x_iconst (v := nI 0) M dL_changed_79 (by decide +kernel) ?_
          refine n_add M dL_changed_80 ?_
          exact x_iret M hr hlk dL_changed_81 ⟨by decide, by decide⟩ (congrArg (fun n => some (Value.int (nI n))) (by unfold digs dg1; rw [if_pos (by omega), if_pos (by omega), if_pos (by omega), if_pos (by omega)])) rfl
        · refine x_iconst (v := nI 1) M dL_changed_75 (by decide +kernel) ?_
          refine x_goto (tgt := 80) M dL_changed_76 (by decide) ?_
          refine n_add M dL_changed_80 ?_
          exact x_iret M hr hlk dL_changed_81 ⟨by decide, by decide⟩ (congrArg (fun n => some (Value.int (nI n))) (by unfold digs dg1; rw [if_pos (by omega), if_pos (by omega), if_pos (by omega), if_neg (by omega)])) rfl
      · refine x_iconst (v := nI 1) M dL_changed_56 (by decide +kernel) ?_
        refine x_goto (tgt := 61) M dL_changed_57 (by decide) ?_
        refine n_add M dL_changed_61 ?_
        refine x_iload0 M dL_changed_62 ?_
        refine x_sipush (v := nI 1000) M dL_changed_63 (by decide +kernel) ?_
        refine n_div M (by first | omega | exact hB _ _ | exact hC _ _) (by omega) (by first | omega | exact hB _ _ | exact hC _ _) dL_changed_66 ?_
        refine x_iload1 M dL_changed_67 ?_
        refine x_sipush (v := nI 1000) M dL_changed_68 (by decide +kernel) ?_
        refine n_div M (by first | omega | exact hB _ _ | exact hC _ _) (by omega) (by first | omega | exact hB _ _ | exact hC _ _) dL_changed_71 ?_
        refine n_icmp_eq (tgt := 79) M (by first | omega | exact hB _ _ | exact hC _ _) (by first | omega | exact hB _ _ | exact hC _ _) dL_changed_72 (by decide) (fun q72 => ?_) (fun q72 => ?_)
        · refine x_iconst (v := nI 0) M dL_changed_79 (by decide +kernel) ?_
          refine n_add M dL_changed_80 ?_
          exact x_iret M hr hlk dL_changed_81 ⟨by decide, by decide⟩ (congrArg (fun n => some (Value.int (nI n))) (by unfold digs dg1; rw [if_pos (by omega), if_pos (by omega), if_neg (by omega), if_pos (by omega)])) rfl
        · refine x_iconst (v := nI 1) M dL_changed_75 (by decide +kernel) ?_
          refine x_goto (tgt := 80) M dL_changed_76 (by decide) ?_
          refine n_add M dL_changed_80 ?_
          exact x_iret M hr hlk dL_changed_81 ⟨by decide, by decide⟩ (congrArg (fun n => some (Value.int (nI n))) (by unfold digs dg1; rw [if_pos (by omega), if_pos (by omega), if_neg (by omega), if_neg (by omega)])) rfl
    · refine x_iconst (v := nI 1) M dL_changed_33 (by decide +kernel) ?_
      refine x_goto (tgt := 38) M dL_changed_34 (by decide) ?_
      refine n_add M dL_changed_38 ?_
      refine x_iload0 M dL_changed_39 ?_
      refine x_bipush (v := nI 100) M dL_changed_40 (by decide +kernel) ?_
      refine n_div M (by first | omega | exact hB _ _ | exact hC _ _) (by omega) (by first | omega | exact hB _ _ | exact hC _ _) dL_changed_42 ?_
      refine x_bipush (v := nI 10) M dL_changed_43 (by decide +kernel) ?_
      refine n_rem M (by first | omega | exact hB _ _ | exact hC _ _) (by omega) (by first | omega | exact hB _ _ | exact hC _ _) dL_changed_45 ?_
      refine x_iload1 M dL_changed_46 ?_
      refine x_bipush (v := nI 100) M dL_changed_47 (by decide +kernel) ?_
      refine n_div M (by first | omega | exact hB _ _ | exact hC _ _) (by omega) (by first | omega | exact hB _ _ | exact hC _ _) dL_changed_49 ?_
      refine x_bipush (v := nI 10) M dL_changed_50 (by decide +kernel) ?_
      refine n_rem M (by first | omega | exact hB _ _ | exact hC _ _) (by omega) (by first | omega | exact hB _ _ | exact hC _ _) dL_changed_52 ?_
      refine n_icmp_eq (tgt := 60) M (by first | omega | exact hB _ _ | exact hC _ _) (by first | omega | exact hB _ _ | exact hC _ _) dL_changed_53 (by decide) (fun q53 => ?_) (fun q53 => ?_)
      · refine x_iconst (v := nI 0) M dL_changed_60 (by decide +kernel) ?_
        refine n_add M dL_changed_61 ?_
        refine x_iload0 M dL_changed_62 ?_
        refine x_sipush (v := nI 1000) M dL_changed_63 (by decide +kernel) ?_
        refine n_div M (by first | omega | exact hB _ _ | exact hC _ _) (by omega) (by first | omega | exact hB _ _ | exact hC _ _) dL_changed_66 ?_
        refine x_iload1 M dL_changed_67 ?_
        refine x_sipush (v := nI 1000) M dL_changed_68 (by decide +kernel) ?_
        refine n_div M (by first | omega | exact hB _ _ | exact hC _ _) (by omega) (by first | omega | exact hB _ _ | exact hC _ _) dL_changed_71 ?_
        refine n_icmp_eq (tgt := 79) M (by first | omega | exact hB _ _ | exact hC _ _) (by first | omega | exact hB _ _ | exact hC _ _) dL_changed_72 (by decide) (fun q72 => ?_) (fun q72 => ?_)
        · refine x_iconst (v := nI 0) M dL_changed_79 (by decide +kernel) ?_
          refine n_add M dL_changed_80 ?_
          exact x_iret M hr hlk dL_changed_81 ⟨by decide, by decide⟩ (congrArg (fun n => some (Value.int (nI n))) (by unfold digs dg1; rw [if_pos (by omega), if_neg (by omega), if_pos (by omega), if_pos (by omega)])) rfl
        · refine x_iconst (v := nI 1) M dL_changed_75 (by decide +kernel) ?_
          refine x_goto (tgt := 80) M dL_changed_76 (by decide) ?_
          refine n_add M dL_changed_80 ?_
          exact x_iret M hr hlk dL_changed_81 ⟨by decide, by decide⟩ (congrArg (fun n => some (Value.int (nI n))) (by unfold digs dg1; rw [if_pos (by omega), if_neg (by omega), if_pos (by omega), if_neg (by omega)])) rfl
      · refine x_iconst (v := nI 1) M dL_changed_56 (by decide +kernel) ?_
        refine x_goto (tgt := 61) M dL_changed_57 (by decide) ?_
        refine n_add M dL_changed_61 ?_
        refine x_iload0 M dL_changed_62 ?_
        refine x_sipush (v := nI 1000) M dL_changed_63 (by decide +kernel) ?_
        refine n_div M (by first | omega | exact hB _ _ | exact hC _ _) (by omega) (by first | omega | exact hB _ _ | exact hC _ _) dL_changed_66 ?_
        refine x_iload1 M dL_changed_67 ?_
        refine x_sipush (v := nI 1000) M dL_changed_68 (by decide +kernel) ?_
        refine n_div M (by first | omega | exact hB _ _ | exact hC _ _) (by omega) (by first | omega | exact hB _ _ | exact hC _ _) dL_changed_71 ?_
        refine n_icmp_eq (tgt := 79) M (by first | omega | exact hB _ _ | exact hC _ _) (by first | omega | exact hB _ _ | exact hC _ _) dL_changed_72 (by decide) (fun q72 => ?_) (fun q72 => ?_)
        · refine x_iconst (v := nI 0) M dL_changed_79 (by decide +kernel) ?_
          refine n_add M dL_changed_80 ?_
          exact x_iret M hr hlk dL_changed_81 ⟨by decide, by decide⟩ (congrArg (fun n => some (Value.int (nI n))) (by unfold digs dg1; rw [if_pos (by omega), if_neg (by omega), if_neg (by omega), if_pos (by omega)])) rfl
        · refine x_iconst (v := nI 1) M dL_changed_75 (by decide +kernel) ?_
          refine x_goto (tgt := 80) M dL_changed_76 (by decide) ?_
          refine n_add M dL_changed_80 ?_
          exact x_iret M hr hlk dL_changed_81 ⟨by decide, by decide⟩ (congrArg (fun n => some (Value.int (nI n))) (by unfold digs dg1; rw [if_pos (by omega), if_neg (by omega), if_neg (by omega), if_neg (by omega)])) rfl
  · refine x_iconst (v := nI 1) M dL_changed_11 (by decide +kernel) ?_
    refine x_goto (tgt := 16) M dL_changed_12 (by decide) ?_
    refine x_iload0 M dL_changed_16 ?_
    refine x_bipush (v := nI 10) M dL_changed_17 (by decide +kernel) ?_
    refine n_div M (by first | omega | exact hB _ _ | exact hC _ _) (by omega) (by first | omega | exact hB _ _ | exact hC _ _) dL_changed_19 ?_
    refine x_bipush (v := nI 10) M dL_changed_20 (by decide +kernel) ?_
    refine n_rem M (by first | omega | exact hB _ _ | exact hC _ _) (by omega) (by first | omega | exact hB _ _ | exact hC _ _) dL_changed_22 ?_
    refine x_iload1 M dL_changed_23 ?_
    refine x_bipush (v := nI 10) M dL_changed_24 (by decide +kernel) ?_
    refine n_div M (by first | omega | exact hB _ _ | exact hC _ _) (by omega) (by first | omega | exact hB _ _ | exact hC _ _) dL_changed_26 ?_
    refine x_bipush (v := nI 10) M dL_changed_27 (by decide +kernel) ?_
    refine n_rem M (by first | omega | exact hB _ _ | exact hC _ _) (by omega) (by first | omega | exact hB _ _ | exact hC _ _) dL_changed_29 ?_
    refine n_icmp_eq (tgt := 37) M (by first | omega | exact hB _ _ | exact hC _ _) (by first | omega | exact hB _ _ | exact hC _ _) dL_changed_30 (by decide) (fun q30 => ?_) (fun q30 => ?_)
    · refine x_iconst (v := nI 0) M dL_changed_37 (by decide +kernel) ?_
      refine n_add M dL_changed_38 ?_
      refine x_iload0 M dL_changed_39 ?_
      refine x_bipush (v := nI 100) M dL_changed_40 (by decide +kernel) ?_
      refine n_div M (by first | omega | exact hB _ _ | exact hC _ _) (by omega) (by first | omega | exact hB _ _ | exact hC _ _) dL_changed_42 ?_
      refine x_bipush (v := nI 10) M dL_changed_43 (by decide +kernel) ?_
      refine n_rem M (by first | omega | exact hB _ _ | exact hC _ _) (by omega) (by first | omega | exact hB _ _ | exact hC _ _) dL_changed_45 ?_
      refine x_iload1 M dL_changed_46 ?_
      refine x_bipush (v := nI 100) M dL_changed_47 (by decide +kernel) ?_
      refine n_div M (by first | omega | exact hB _ _ | exact hC _ _) (by omega) (by first | omega | exact hB _ _ | exact hC _ _) dL_changed_49 ?_
      refine x_bipush (v := nI 10) M dL_changed_50 (by decide +kernel) ?_
      refine n_rem M (by first | omega | exact hB _ _ | exact hC _ _) (by omega) (by first | omega | exact hB _ _ | exact hC _ _) dL_changed_52 ?_
      refine n_icmp_eq (tgt := 60) M (by first | omega | exact hB _ _ | exact hC _ _) (by first | omega | exact hB _ _ | exact hC _ _) dL_changed_53 (by decide) (fun q53 => ?_) (fun q53 => ?_)
      · refine x_iconst (v := nI 0) M dL_changed_60 (by decide +kernel) ?_
        refine n_add M dL_changed_61 ?_
        refine x_iload0 M dL_changed_62 ?_
        refine x_sipush (v := nI 1000) M dL_changed_63 (by decide +kernel) ?_
        refine n_div M (by first | omega | exact hB _ _ | exact hC _ _) (by omega) (by first | omega | exact hB _ _ | exact hC _ _) dL_changed_66 ?_
        refine x_iload1 M dL_changed_67 ?_
        refine x_sipush (v := nI 1000) M dL_changed_68 (by decide +kernel) ?_
        refine n_div M (by first | omega | exact hB _ _ | exact hC _ _) (by omega) (by first | omega | exact hB _ _ | exact hC _ _) dL_changed_71 ?_
        refine n_icmp_eq (tgt := 79) M (by first | omega | exact hB _ _ | exact hC _ _) (by first | omega | exact hB _ _ | exact hC _ _) dL_changed_72 (by decide) (fun q72 => ?_) (fun q72 => ?_)
        · refine x_iconst (v := nI 0) M dL_changed_79 (by decide +kernel) ?_
          refine n_add M dL_changed_80 ?_
          exact x_iret M hr hlk dL_changed_81 ⟨by decide, by decide⟩ (congrArg (fun n => some (Value.int (nI n))) (by unfold digs dg1; rw [if_neg (by omega), if_pos (by omega), if_pos (by omega), if_pos (by omega)])) rfl
        · refine x_iconst (v := nI 1) M dL_changed_75 (by decide +kernel) ?_
          refine x_goto (tgt := 80) M dL_changed_76 (by decide) ?_
          refine n_add M dL_changed_80 ?_
          exact x_iret M hr hlk dL_changed_81 ⟨by decide, by decide⟩ (congrArg (fun n => some (Value.int (nI n))) (by unfold digs dg1; rw [if_neg (by omega), if_pos (by omega), if_pos (by omega), if_neg (by omega)])) rfl
      · refine x_iconst (v := nI 1) M dL_changed_56 (by decide +kernel) ?_
        refine x_goto (tgt := 61) M dL_changed_57 (by decide) ?_
        refine n_add M dL_changed_61 ?_
        refine x_iload0 M dL_changed_62 ?_
        refine x_sipush (v := nI 1000) M dL_changed_63 (by decide +kernel) ?_
        refine n_div M (by first | omega | exact hB _ _ | exact hC _ _) (by omega) (by first | omega | exact hB _ _ | exact hC _ _) dL_changed_66 ?_
        refine x_iload1 M dL_changed_67 ?_
        refine x_sipush (v := nI 1000) M dL_changed_68 (by decide +kernel) ?_
        refine n_div M (by first | omega | exact hB _ _ | exact hC _ _) (by omega) (by first | omega | exact hB _ _ | exact hC _ _) dL_changed_71 ?_
        refine n_icmp_eq (tgt := 79) M (by first | omega | exact hB _ _ | exact hC _ _) (by first | omega | exact hB _ _ | exact hC _ _) dL_changed_72 (by decide) (fun q72 => ?_) (fun q72 => ?_)
        · refine x_iconst (v := nI 0) M dL_changed_79 (by decide +kernel) ?_
          refine n_add M dL_changed_80 ?_
          exact x_iret M hr hlk dL_changed_81 ⟨by decide, by decide⟩ (congrArg (fun n => some (Value.int (nI n))) (by unfold digs dg1; rw [if_neg (by omega), if_pos (by omega), if_neg (by omega), if_pos (by omega)])) rfl
        · refine x_iconst (v := nI 1) M dL_changed_75 (by decide +kernel) ?_
          refine x_goto (tgt := 80) M dL_changed_76 (by decide) ?_
          refine n_add M dL_changed_80 ?_
          exact x_iret M hr hlk dL_changed_81 ⟨by decide, by decide⟩ (congrArg (fun n => some (Value.int (nI n))) (by unfold digs dg1; rw [if_neg (by omega), if_pos (by omega), if_neg (by omega), if_neg (by omega)])) rfl
    · refine x_iconst (v := nI 1) M dL_changed_33 (by decide +kernel) ?_
      refine x_goto (tgt := 38) M dL_changed_34 (by decide) ?_
      refine n_add M dL_changed_38 ?_
      refine x_iload0 M dL_changed_39 ?_
      refine x_bipush (v := nI 100) M dL_changed_40 (by decide +kernel) ?_
      refine n_div M (by first | omega | exact hB _ _ | exact hC _ _) (by omega) (by first | omega | exact hB _ _ | exact hC _ _) dL_changed_42 ?_
      refine x_bipush (v := nI 10) M dL_changed_43 (by decide +kernel) ?_
      refine n_rem M (by first | omega | exact hB _ _ | exact hC _ _) (by omega) (by first | omega | exact hB _ _ | exact hC _ _) dL_changed_45 ?_
      refine x_iload1 M dL_changed_46 ?_
      refine x_bipush (v := nI 100) M dL_changed_47 (by decide +kernel) ?_
      refine n_div M (by first | omega | exact hB _ _ | exact hC _ _) (by omega) (by first | omega | exact hB _ _ | exact hC _ _) dL_changed_49 ?_
      refine x_bipush (v := nI 10) M dL_changed_50 (by decide +kernel) ?_
      refine n_rem M (by first | omega | exact hB _ _ | exact hC _ _) (by omega) (by first | omega | exact hB _ _ | exact hC _ _) dL_changed_52 ?_
      refine n_icmp_eq (tgt := 60) M (by first | omega | exact hB _ _ | exact hC _ _) (by first | omega | exact hB _ _ | exact hC _ _) dL_changed_53 (by decide) (fun q53 => ?_) (fun q53 => ?_)
      · refine x_iconst (v := nI 0) M dL_changed_60 (by decide +kernel) ?_
        refine n_add M dL_changed_61 ?_
        refine x_iload0 M dL_changed_62 ?_
        refine x_sipush (v := nI 1000) M dL_changed_63 (by decide +kernel) ?_
        refine n_div M (by first | omega | exact hB _ _ | exact hC _ _) (by omega) (by first | omega | exact hB _ _ | exact hC _ _) dL_changed_66 ?_
        refine x_iload1 M dL_changed_67 ?_
        refine x_sipush (v := nI 1000) M dL_changed_68 (by decide +kernel) ?_
        refine n_div M (by first | omega | exact hB _ _ | exact hC _ _) (by omega) (by first | omega | exact hB _ _ | exact hC _ _) dL_changed_71 ?_
        refine n_icmp_eq (tgt := 79) M (by first | omega | exact hB _ _ | exact hC _ _) (by first | omega | exact hB _ _ | exact hC _ _) dL_changed_72 (by decide) (fun q72 => ?_) (fun q72 => ?_)
        · refine x_iconst (v := nI 0) M dL_changed_79 (by decide +kernel) ?_
          refine n_add M dL_changed_80 ?_
          exact x_iret M hr hlk dL_changed_81 ⟨by decide, by decide⟩ (congrArg (fun n => some (Value.int (nI n))) (by unfold digs dg1; rw [if_neg (by omega), if_neg (by omega), if_pos (by omega), if_pos (by omega)])) rfl
        · refine x_iconst (v := nI 1) M dL_changed_75 (by decide +kernel) ?_
          refine x_goto (tgt := 80) M dL_changed_76 (by decide) ?_
          refine n_add M dL_changed_80 ?_
          exact x_iret M hr hlk dL_changed_81 ⟨by decide, by decide⟩ (congrArg (fun n => some (Value.int (nI n))) (by unfold digs dg1; rw [if_neg (by omega), if_neg (by omega), if_pos (by omega), if_neg (by omega)])) rfl
      · refine x_iconst (v := nI 1) M dL_changed_56 (by decide +kernel) ?_
        refine x_goto (tgt := 61) M dL_changed_57 (by decide) ?_
        refine n_add M dL_changed_61 ?_
        refine x_iload0 M dL_changed_62 ?_
        refine x_sipush (v := nI 1000) M dL_changed_63 (by decide +kernel) ?_
        refine n_div M (by first | omega | exact hB _ _ | exact hC _ _) (by omega) (by first | omega | exact hB _ _ | exact hC _ _) dL_changed_66 ?_
        refine x_iload1 M dL_changed_67 ?_
        refine x_sipush (v := nI 1000) M dL_changed_68 (by decide +kernel) ?_
        refine n_div M (by first | omega | exact hB _ _ | exact hC _ _) (by omega) (by first | omega | exact hB _ _ | exact hC _ _) dL_changed_71 ?_
        refine n_icmp_eq (tgt := 79) M (by first | omega | exact hB _ _ | exact hC _ _) (by first | omega | exact hB _ _ | exact hC _ _) dL_changed_72 (by decide) (fun q72 => ?_) (fun q72 => ?_)
        · refine x_iconst (v := nI 0) M dL_changed_79 (by decide +kernel) ?_
          refine n_add M dL_changed_80 ?_
          exact x_iret M hr hlk dL_changed_81 ⟨by decide, by decide⟩ (congrArg (fun n => some (Value.int (nI n))) (by unfold digs dg1; rw [if_neg (by omega), if_neg (by omega), if_neg (by omega), if_pos (by omega)])) rfl
        · refine x_iconst (v := nI 1) M dL_changed_75 (by decide +kernel) ?_
          refine x_goto (tgt := 80) M dL_changed_76 (by decide) ?_
          refine n_add M dL_changed_80 ?_
          exact x_iret M hr hlk dL_changed_81 ⟨by decide, by decide⟩ (congrArg (fun n => some (Value.int (nI n))) (by unfold digs dg1; rw [if_neg (by omega), if_neg (by omega), if_neg (by omega), if_neg (by omega)])) rfl
theorem mv_L_leastNow : x_MS yL_leastNow cL_leastNow 6 (some FieldType.int) 3 := ⟨kw_375, kw_8, ⟨by decide +kernel, by decide +kernel⟩, by decide +kernel, kw_374⟩
abbrev rm_L_leastNow : Room := { frames := 2, cells := 0, slots := 0, locals := 42 }
set_option maxRecDepth 20000 in
set_option maxHeartbeats 2000000 in
theorem l_leastNow (hO : Ok X) (hc1 : B 0 1 = X 0 0) (hw : ∀ i, i < X 0 0 → B 0 (3 + i) = X 2 i) {j : Nat} (hj : j < 12) : x_Ret l D kc A yL_leastNow cL_leastNow 6 (some FieldType.int) rm_L_leastNow [.ref (ad 0), .ref (ad 6), .int (nI j)] (wl kc ad X B hf ex) (some (.int (em (lnow X j (X 0 0))))) (wl kc ad X B hf ex) := by
  refine x_ret_of RL (by decide +kernel) rfl [some (.ref (ad 0)), some (.ref (ad 6)), some (.int (nI j)), none, none, none] (Nat.le_of_ble_eq_true rfl) rfl rfl ?_
  intro p e s m args below meth c M hr hlk hnm TB hAA
  have hB : ∀ r i, X r i < 2 ^ 31 := fun r i => Nat.lt_trans (hO.bd r i) (by decide)
  have hn := hO.n
  have loop : ∀ (d k : Nat) (l5 : Option Value), k + d = X 0 0 → x_X p l e rm_L_leastNow s m args below meth c D A 6 0 0 (MQ below (x_Qc D A (some (.int (em (lnow X j (X 0 0))))) (wl kc ad X B hf ex)) args s rm_L_leastNow.cells rm_L_leastNow.slots A) (wl kc ad X B hf ex) 5 [some (.ref (ad 0)), some (.ref (ad 6)), some (.int (nI j)), some (.int (em (lnow X j k))), some (.int (nI k)), l5] [] := by
    intro d
    induction d with
    | zero =>
      intro k l5 hk
      refine x_iload4 M dL_leastNow_5 ?_
      refine x_aload1 M dL_leastNow_7 ?_
      refine x_iconst (v := nI 1) M dL_leastNow_8 (by decide +kernel) ?_
      refine aCv M TB hc1 (by omega) dL_leastNow_9 ?_
      refine n_icmp_ge (tgt := 55) M (by first | omega | exact hB _ _ | exact hC _ _) (by first | omega | exact hB _ _ | exact hC _ _) dL_leastNow_10 (by decide) (fun q10 => ?_) (fun q10 => absurd q10 (by omega))
      refine x_iload3 M dL_leastNow_55 ?_
      exact x_iret M hr hlk dL_leastNow_56 ⟨by decide, by decide⟩ (by rw [show k = X 0 0 by omega]) rfl
    | succ d ih =>
      intro k l5 hk
      have hk2 : k < X 0 0 := by omega
      have hcw := hw k hk2
      have hsk := hO.s k
      have h9 := ih (k + 1)
      rcases em_c (lnow_le X j k) with ⟨e1, e2⟩ | ⟨e1, e2⟩
      · rw [e2]
        refine x_iload4 M dL_leastNow_5 ?_
        refine x_aload1 M dL_leastNow_7 ?_
        refine x_iconst (v := nI 1) M dL_leastNow_8 (by decide +kernel) ?_
        refine aCv M TB hc1 (by omega) dL_leastNow_9 ?_
        refine n_icmp_ge (tgt := 55) M (by first | omega | exact hB _ _ | exact hC _ _) (by first | omega | exact hB _ _ | exact hC _ _) dL_leastNow_10 (by decide) (fun q10 => absurd q10 (by omega)) (fun q10 => ?_)
        refine x_aload0 M dL_leastNow_13 ?_
        refine x_iload4 M dL_leastNow_14 ?_
        refine x_callV0 M TB hAA mv_X2_shown kw_250 dL_leastNow_16 (c_shown hO hk2) rfl wl_X rfl rfl ⟨by decide, by decide⟩ ⟨by decide, by decide⟩ (Nat.le_of_ble_eq_true rfl) ?_
        refine x_istore5 M dL_leastNow_19 ?_
        refine x_aload1 M dL_leastNow_21 ?_
        refine x_iconst (v := nI 3) M dL_leastNow_22 (by decide +kernel) ?_
        refine x_iload4 M dL_leastNow_23 ?_
        refine n_add M dL_leastNow_25 ?_
        refine aCv M TB hcw (by omega) dL_leastNow_26 ?_
        refine x_iload2 M dL_leastNow_27 ?_
        refine n_icmp_ne (tgt := 47) M (by first | omega | exact hB _ _ | exact hC _ _) (by first | omega | exact hB _ _ | exact hC _ _) dL_leastNow_28 (by decide) (fun q28 => ?_) (fun q28 => ?_)
        · refine x_iload3 M dL_leastNow_47 ?_
          refine x_istore3 M dL_leastNow_48 ?_
          refine n_inc4 M dL_leastNow_49 ?_
          refine x_goto (tgt := 5) M dL_leastNow_52 (by decide) ?_
          rw [lnow_n q28, e2] at h9
          exact h9 _ (by omega)
        · refine x_iload3 M dL_leastNow_31 ?_
          refine x_iconst (v := (-1)) M dL_leastNow_32 (by decide +kernel) ?_
          refine x_icmp_eq (tgt := 42) M dL_leastNow_33 (by decide) (fun q33 => ?_) (fun q33 => absurd rfl q33)
          refine x_iload5 M dL_leastNow_42 ?_
          refine x_goto (tgt := 48) M dL_leastNow_44 (by decide) ?_
          refine x_istore3 M dL_leastNow_48 ?_
          refine n_inc4 M dL_leastNow_49 ?_
          refine x_goto (tgt := 5) M dL_leastNow_52 (by decide) ?_
          rw [lnow_w q28, e1, Nat.min_eq_right (by omega), em_n (show X 3 k ≠ 10000 by omega)] at h9
          exact h9 _ (by omega)
      · rw [e2]
        refine x_iload4 M dL_leastNow_5 ?_
        refine x_aload1 M dL_leastNow_7 ?_
        refine x_iconst (v := nI 1) M dL_leastNow_8 (by decide +kernel) ?_
        refine aCv M TB hc1 (by omega) dL_leastNow_9 ?_
        refine n_icmp_ge (tgt := 55) M (by first | omega | exact hB _ _ | exact hC _ _) (by first | omega | exact hB _ _ | exact hC _ _) dL_leastNow_10 (by decide) (fun q10 => absurd q10 (by omega)) (fun q10 => ?_)
        refine x_aload0 M dL_leastNow_13 ?_
        refine x_iload4 M dL_leastNow_14 ?_
        refine x_callV0 M TB hAA mv_X2_shown kw_250 dL_leastNow_16 (c_shown hO hk2) rfl wl_X rfl rfl ⟨by decide, by decide⟩ ⟨by decide, by decide⟩ (Nat.le_of_ble_eq_true rfl) ?_
        refine x_istore5 M dL_leastNow_19 ?_
        refine x_aload1 M dL_leastNow_21 ?_
        refine x_iconst (v := nI 3) M dL_leastNow_22 (by decide +kernel) ?_
        refine x_iload4 M dL_leastNow_23 ?_
        refine n_add M dL_leastNow_25 ?_
        refine aCv M TB hcw (by omega) dL_leastNow_26 ?_
        refine x_iload2 M dL_leastNow_27 ?_
        refine n_icmp_ne (tgt := 47) M (by first | omega | exact hB _ _ | exact hC _ _) (by first | omega | exact hB _ _ | exact hC _ _) dL_leastNow_28 (by decide) (fun q28 => ?_) (fun q28 => ?_)
        · refine x_iload3 M dL_leastNow_47 ?_
          refine x_istore3 M dL_leastNow_48 ?_
          refine n_inc4 M dL_leastNow_49 ?_
          refine x_goto (tgt := 5) M dL_leastNow_52 (by decide) ?_
          rw [lnow_n q28, e2] at h9
          exact h9 _ (by omega)
        · refine x_iload3 M dL_leastNow_31 ?_
          refine x_iconst (v := (-1)) M dL_leastNow_32 (by decide +kernel) ?_
          refine x_icmp_eq (tgt := 42) M dL_leastNow_33 (by decide) (fun q33 => absurd q33 (nI_m1 (by first | omega | exact hB _ _ | exact hC _ _))) (fun q33 => ?_)
          refine x_iload5 M dL_leastNow_36 ?_
          refine x_iload3 M dL_leastNow_38 ?_
          refine n_icmp_ge (tgt := 47) M (by first | omega | exact hB _ _ | exact hC _ _) (by first | omega | exact hB _ _ | exact hC _ _) dL_leastNow_39 (by decide) (fun q39 => ?_) (fun q39 => ?_)
          · refine x_iload3 M dL_leastNow_47 ?_
            refine x_istore3 M dL_leastNow_48 ?_
            refine n_inc4 M dL_leastNow_49 ?_
            refine x_goto (tgt := 5) M dL_leastNow_52 (by decide) ?_
            rw [lnow_w q28, Nat.min_eq_left (by omega), e2] at h9
            exact h9 _ (by omega)
          · refine x_iload5 M dL_leastNow_42 ?_
            refine x_goto (tgt := 48) M dL_leastNow_44 (by decide) ?_
            refine x_istore3 M dL_leastNow_48 ?_
            refine n_inc4 M dL_leastNow_49 ?_
            refine x_goto (tgt := 5) M dL_leastNow_52 (by decide) ?_
            rw [lnow_w q28, Nat.min_eq_right (by omega), em_n (show X 3 k ≠ 10000 by omega)] at h9
            exact h9 _ (by omega)
  refine x_iconst (v := (-1)) M dL_leastNow_0 (by decide +kernel) ?_
  refine x_istore3 M dL_leastNow_1 ?_
  refine x_iconst (v := nI 0) M dL_leastNow_2 (by decide +kernel) ?_
  refine x_istore4 M dL_leastNow_3 ?_
  exact loop (X 0 0) 0 _ (by omega)
end XM
