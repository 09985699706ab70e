/-! THE LAW's HELPERS: they call the class, and tell by a number what was thrown -/
section XM
variable {l : Launch} {D : va_G} {kc : Nat → ClassId} {A : Nat → Prop} {ad : Nat → Nat} {X B : St} {th : Nat} {ov : Int64} {hw : Nat}
theorem mv_L_setPrice : x_MW yL_setPrice cL_setPrice 5 (some FieldType.int) [(0, 10, 13, 13), (0, 10, 17, 15)] 4 := ⟨kw_141, kw_16, ⟨by decide +kernel, by decide +kernel⟩, by decide +kernel, kw_140⟩
abbrev rm_L_setPrice : Room := { frames := 2, cells := 0, slots := 0, locals := 46 }
abbrev rt_L_setPrice : Room := { frames := 8, cells := 1, slots := 6, locals := 128 }
set_option maxRecDepth 20000 in
set_option maxHeartbeats 2000000 in
theorem h_setPrice {a b : Int32} {r : Int32} {X2 : St} (hC : x_Ret l D kc A yX2_setPrice cX2_setPrice 5 (some FieldType.int) rm_X2_setPrice [.ref (ad 0), .int a, .int b] (wl kc ad (X) B th (ov) hw) (some (.int r)) (wl kc ad (X2) B th (ov) hw)) : x_RetW l D kc A yL_setPrice cL_setPrice 5 (some FieldType.int) [(0, 10, 13, 13), (0, 10, 17, 15)] rm_L_setPrice [.ref (ad 0), .int a, .int b, .ref (ad 18)] (wl kc ad (X) B th (ov) hw) (some (.int (nI 0))) (wl kc ad (X2) B th (r.toInt64) hw) := by
  refine x_retW_of RL (by decide +kernel) rfl [some (.ref (ad 0)), some (.int a), some (.int b), some (.ref (ad 18)), none] (Nat.le_of_ble_eq_true rfl) rfl rfl ?_
  intro p e s m args below meth c M hr hlk htab TB hAA
  refine x_aload3 M dL_setPrice_0 ?_
  refine x_iconst (v := nI 0) M dL_setPrice_1 (by decide +kernel) ?_
  refine x_aload0 M dL_setPrice_2 ?_
  refine x_iload1 M dL_setPrice_3 ?_
  refine x_iload2 M dL_setPrice_4 ?_
  refine x_callV0 M TB hAA mv_X2_setPrice kw_144 dL_setPrice_5 hC rfl wl_X rfl rfl ⟨by decide, by decide⟩ ⟨by decide, by decide⟩ (Nat.le_of_ble_eq_true rfl) ?_
  refine x_i2l M dL_setPrice_8 ?_
  refine sQ M TB dL_setPrice_9 ?_
  refine x_goto (tgt := 21) M dL_setPrice_10 (by decide) ?_
  refine x_iconst (v := nI 0) M dL_setPrice_21 (by decide +kernel) ?_
  exact x_iret M hr hlk dL_setPrice_22 ⟨by decide, by decide⟩ rfl rfl
set_option maxRecDepth 20000 in
set_option maxHeartbeats 2000000 in
theorem h_setPrice_1 {a b : Int32} (hT : x_Thr l D kc A yX2_setPrice cX2_setPrice 5 (some FieldType.int) rt_X2_setPrice [.ref (ad 0), .int a, .int b] (wl kc ad (X) B th (ov) hw) x_IO) : x_RetW l D kc A yL_setPrice cL_setPrice 5 (some FieldType.int) [(0, 10, 13, 13), (0, 10, 17, 15)] rt_L_setPrice [.ref (ad 0), .int a, .int b, .ref (ad 18)] (wl kc ad (X) B th (ov) hw) (some (.int (nI 1))) (wl kc ad (X) B th (ov) hw) := by
  refine x_retW_of RL (by decide +kernel) rfl [some (.ref (ad 0)), some (.int a), some (.int b), some (.ref (ad 18)), none] (Nat.le_of_ble_eq_true rfl) rfl rfl ?_
  intro p e s m args below meth c M hr hlk htab TB hAA
  refine x_aload3 M dL_setPrice_0 ?_
  refine x_iconst (v := nI 0) M dL_setPrice_1 (by decide +kernel) ?_
  refine x_aload0 M dL_setPrice_2 ?_
  refine x_iload1 M dL_setPrice_3 ?_
  refine x_iload2 M dL_setPrice_4 ?_
  refine x_callVT M TB hAA mv_X2_setPrice kw_144 dL_setPrice_5 hT rfl wl_X rfl rfl ⟨by decide, by decide⟩ ⟨by decide, by decide⟩ (Nat.le_of_ble_eq_true rfl) ?_
  refine x_Tcatch (name := x_IO) M [] ⟨0, 10, 13, 13⟩ [⟨0, 10, 17, 15⟩] htab (fun z hz => absurd hz List.not_mem_nil) rfl (by decide) (M.2.2.2.2 _ kw_142) TB.2.2.1.1 (fun q => ?_)
  refine x_astore4 M dL_setPrice_13 ?_
  refine x_iconst (v := nI 1) M dL_setPrice_15 (by decide +kernel) ?_
  exact x_iret M hr hlk dL_setPrice_16 ⟨by decide, by decide⟩ rfl rfl
set_option maxRecDepth 20000 in
set_option maxHeartbeats 2000000 in
theorem h_setPrice_2 {a b : Int32} (hT : x_Thr l D kc A yX2_setPrice cX2_setPrice 5 (some FieldType.int) rt_X2_setPrice [.ref (ad 0), .int a, .int b] (wl kc ad (X) B th (ov) hw) x_IA) : x_RetW l D kc A yL_setPrice cL_setPrice 5 (some FieldType.int) [(0, 10, 13, 13), (0, 10, 17, 15)] rt_L_setPrice [.ref (ad 0), .int a, .int b, .ref (ad 18)] (wl kc ad (X) B th (ov) hw) (some (.int (nI 2))) (wl kc ad (X) B th (ov) hw) := by
  refine x_retW_of RL (by decide +kernel) rfl [some (.ref (ad 0)), some (.int a), some (.int b), some (.ref (ad 18)), none] (Nat.le_of_ble_eq_true rfl) rfl rfl ?_
  intro p e s m args below meth c M hr hlk htab TB hAA
  refine x_aload3 M dL_setPrice_0 ?_
  refine x_iconst (v := nI 0) M dL_setPrice_1 (by decide +kernel) ?_
  refine x_aload0 M dL_setPrice_2 ?_
  refine x_iload1 M dL_setPrice_3 ?_
  refine x_iload2 M dL_setPrice_4 ?_
  refine x_callVT M TB hAA mv_X2_setPrice kw_144 dL_setPrice_5 hT rfl wl_X rfl rfl ⟨by decide, by decide⟩ ⟨by decide, by decide⟩ (Nat.le_of_ble_eq_true rfl) ?_
  refine x_Tcatch (name := x_IA) M [⟨0, 10, 13, 13⟩] ⟨0, 10, 17, 15⟩ [] htab (fun z hz => by rw [List.mem_singleton.mp hz]; exact Or.inr ⟨by decide, x_IO, M.2.2.2.2 _ kw_142, TB.2.2.2.1.1⟩) rfl (by decide) (M.2.2.2.2 _ kw_143) TB.2.2.1.2.1 (fun q => ?_)
  refine x_astore4 M dL_setPrice_17 ?_
  refine x_iconst (v := nI 2) M dL_setPrice_19 (by decide +kernel) ?_
  exact x_iret M hr hlk dL_setPrice_20 ⟨by decide, by decide⟩ rfl rfl
theorem mv_L_price : x_MW yL_price cL_price 4 (some FieldType.int) [(0, 9, 12, 13)] 3 := ⟨kw_244, kw_16, ⟨by decide +kernel, by decide +kernel⟩, by decide +kernel, kw_243⟩
abbrev rm_L_price : Room := { frames := 2, cells := 0, slots := 0, locals := 41 }
abbrev rt_L_price : Room := { frames := 8, cells := 1, slots := 6, locals := 123 }
set_option maxRecDepth 20000 in
set_option maxHeartbeats 2000000 in
theorem h_price {a : Int32} {r : Int32} {X2 : St} (hC : x_Ret l D kc A yX2_price cX2_price 2 (some FieldType.int) rm_X2_price [.ref (ad 0), .int a] (wl kc ad (X) B th (ov) hw) (some (.int r)) (wl kc ad (X2) B th (ov) hw)) : x_RetW l D kc A yL_price cL_price 4 (some FieldType.int) [(0, 9, 12, 13)] rm_L_price [.ref (ad 0), .int a, .ref (ad 18)] (wl kc ad (X) B th (ov) hw) (some (.int (nI 0))) (wl kc ad (X2) B th (r.toInt64) hw) := by
  refine x_retW_of RL (by decide +kernel) rfl [some (.ref (ad 0)), some (.int a), some (.ref (ad 18)), none] (Nat.le_of_ble_eq_true rfl) rfl rfl ?_
  intro p e s m args below meth c M hr hlk htab TB hAA
  refine x_aload2 M dL_price_0 ?_
  refine x_iconst (v := nI 0) M dL_price_1 (by decide +kernel) ?_
  refine x_aload0 M dL_price_2 ?_
  refine x_iload1 M dL_price_3 ?_
  refine x_callV0 M TB hAA mv_X2_price kw_245 dL_price_4 hC rfl wl_X rfl rfl ⟨by decide, by decide⟩ ⟨by decide, by decide⟩ (Nat.le_of_ble_eq_true rfl) ?_
  refine x_i2l M dL_price_7 ?_
  refine sQ M TB dL_price_8 ?_
  refine x_goto (tgt := 15) M dL_price_9 (by decide) ?_
  refine x_iconst (v := nI 0) M dL_price_15 (by decide +kernel) ?_
  exact x_iret M hr hlk dL_price_16 ⟨by decide, by decide⟩ rfl rfl
set_option maxRecDepth 20000 in
set_option maxHeartbeats 2000000 in
theorem h_price_1 {a : Int32} (hT : x_Thr l D kc A yX2_price cX2_price 2 (some FieldType.int) rt_X2_price [.ref (ad 0), .int a] (wl kc ad (X) B th (ov) hw) x_IO) : x_RetW l D kc A yL_price cL_price 4 (some FieldType.int) [(0, 9, 12, 13)] rt_L_price [.ref (ad 0), .int a, .ref (ad 18)] (wl kc ad (X) B th (ov) hw) (some (.int (nI 1))) (wl kc ad (X) B th (ov) hw) := by
  refine x_retW_of RL (by decide +kernel) rfl [some (.ref (ad 0)), some (.int a), some (.ref (ad 18)), none] (Nat.le_of_ble_eq_true rfl) rfl rfl ?_
  intro p e s m args below meth c M hr hlk htab TB hAA
  refine x_aload2 M dL_price_0 ?_
  refine x_iconst (v := nI 0) M dL_price_1 (by decide +kernel) ?_
  refine x_aload0 M dL_price_2 ?_
  refine x_iload1 M dL_price_3 ?_
  refine x_callVT M TB hAA mv_X2_price kw_245 dL_price_4 hT rfl wl_X rfl rfl ⟨by decide, by decide⟩ ⟨by decide, by decide⟩ (Nat.le_of_ble_eq_true rfl) ?_
  refine x_Tcatch (name := x_IO) M [] ⟨0, 9, 12, 13⟩ [] htab (fun z hz => absurd hz List.not_mem_nil) rfl (by decide) (M.2.2.2.2 _ kw_142) TB.2.2.1.1 (fun q => ?_)
  refine x_astore3 M dL_price_12 ?_
  refine x_iconst (v := nI 1) M dL_price_13 (by decide +kernel) ?_
  exact x_iret M hr hlk dL_price_14 ⟨by decide, by decide⟩ rfl rfl
theorem mv_L_hang : x_MW yL_hang cL_hang 4 (some FieldType.int) [(0, 9, 12, 13), (0, 9, 15, 24)] 3 := ⟨kw_251, kw_16, ⟨by decide +kernel, by decide +kernel⟩, by decide +kernel, kw_250⟩
abbrev rm_L_hang : Room := { frames := 2, cells := 0, slots := 0, locals := 41 }
abbrev rt_L_hang : Room := { frames := 8, cells := 1, slots := 6, locals := 123 }
set_option maxRecDepth 20000 in
set_option maxHeartbeats 2000000 in
theorem h_hang {a : Int32} {r : Int32} {X2 : St} (hC : x_Ret l D kc A yX2_hang cX2_hang 2 (some FieldType.int) rm_X2_hang [.ref (ad 0), .int a] (wl kc ad (X) B th (ov) hw) (some (.int r)) (wl kc ad (X2) B th (ov) hw)) : x_RetW l D kc A yL_hang cL_hang 4 (some FieldType.int) [(0, 9, 12, 13), (0, 9, 15, 24)] rm_L_hang [.ref (ad 0), .int a, .ref (ad 18)] (wl kc ad (X) B th (ov) hw) (some (.int (nI 0))) (wl kc ad (X2) B th (r.toInt64) hw) := by
  refine x_retW_of RL (by decide +kernel) rfl [some (.ref (ad 0)), some (.int a), some (.ref (ad 18)), none] (Nat.le_of_ble_eq_true rfl) rfl rfl ?_
  intro p e s m args below meth c M hr hlk htab TB hAA
  refine x_aload2 M dL_hang_0 ?_
  refine x_iconst (v := nI 0) M dL_hang_1 (by decide +kernel) ?_
  refine x_aload0 M dL_hang_2 ?_
  refine x_iload1 M dL_hang_3 ?_
  refine x_callV0 M TB hAA mv_X2_hang kw_253 dL_hang_4 hC rfl wl_X rfl rfl ⟨by decide, by decide⟩ ⟨by decide, by decide⟩ (Nat.le_of_ble_eq_true rfl) ?_
  refine x_i2l M dL_hang_7 ?_
  refine sQ M TB dL_hang_8 ?_
  refine x_goto (tgt := 18) M dL_hang_9 (by decide) ?_
  refine x_iconst (v := nI 0) M dL_hang_18 (by decide +kernel) ?_
  exact x_iret M hr hlk dL_hang_19 ⟨by decide, by decide⟩ rfl rfl
set_option maxRecDepth 20000 in
set_option maxHeartbeats 2000000 in
theorem h_hang_1 {a : Int32} (hT : x_Thr l D kc A yX2_hang cX2_hang 2 (some FieldType.int) rt_X2_hang [.ref (ad 0), .int a] (wl kc ad (X) B th (ov) hw) x_IO) : x_RetW l D kc A yL_hang cL_hang 4 (some FieldType.int) [(0, 9, 12, 13), (0, 9, 15, 24)] rt_L_hang [.ref (ad 0), .int a, .ref (ad 18)] (wl kc ad (X) B th (ov) hw) (some (.int (nI 1))) (wl kc ad (X) B th (ov) hw) := by
  refine x_retW_of RL (by decide +kernel) rfl [some (.ref (ad 0)), some (.int a), some (.ref (ad 18)), none] (Nat.le_of_ble_eq_true rfl) rfl rfl ?_
  intro p e s m args below meth c M hr hlk htab TB hAA
  refine x_aload2 M dL_hang_0 ?_
  refine x_iconst (v := nI 0) M dL_hang_1 (by decide +kernel) ?_
  refine x_aload0 M dL_hang_2 ?_
  refine x_iload1 M dL_hang_3 ?_
  refine x_callVT M TB hAA mv_X2_hang kw_253 dL_hang_4 hT rfl wl_X rfl rfl ⟨by decide, by decide⟩ ⟨by decide, by decide⟩ (Nat.le_of_ble_eq_true rfl) ?_
  refine x_Tcatch (name := x_IO) M [] ⟨0, 9, 12, 13⟩ [⟨0, 9, 15, 24⟩] htab (fun z hz => absurd hz List.not_mem_nil) rfl (by decide) (M.2.2.2.2 _ kw_142) TB.2.2.1.1 (fun q => ?_)
  refine x_astore3 M dL_hang_12 ?_
  refine x_iconst (v := nI 1) M dL_hang_13 (by decide +kernel) ?_
  exact x_iret M hr hlk dL_hang_14 ⟨by decide, by decide⟩ rfl rfl
set_option maxRecDepth 20000 in
set_option maxHeartbeats 2000000 in
theorem h_hang_2 {a : Int32} (hT : x_Thr l D kc A yX2_hang cX2_hang 2 (some FieldType.int) rt_X2_hang [.ref (ad 0), .int a] (wl kc ad (X) B th (ov) hw) x_IS) : x_RetW l D kc A yL_hang cL_hang 4 (some FieldType.int) [(0, 9, 12, 13), (0, 9, 15, 24)] rt_L_hang [.ref (ad 0), .int a, .ref (ad 18)] (wl kc ad (X) B th (ov) hw) (some (.int (nI 2))) (wl kc ad (X) B th (ov) hw) := by
  refine x_retW_of RL (by decide +kernel) rfl [some (.ref (ad 0)), some (.int a), some (.ref (ad 18)), none] (Nat.le_of_ble_eq_true rfl) rfl rfl ?_
  intro p e s m args below meth c M hr hlk htab TB hAA
  refine x_aload2 M dL_hang_0 ?_
  refine x_iconst (v := nI 0) M dL_hang_1 (by decide +kernel) ?_
  refine x_aload0 M dL_hang_2 ?_
  refine x_iload1 M dL_hang_3 ?_
  refine x_callVT M TB hAA mv_X2_hang kw_253 dL_hang_4 hT rfl wl_X rfl rfl ⟨by decide, by decide⟩ ⟨by decide, by decide⟩ (Nat.le_of_ble_eq_true rfl) ?_
  refine x_Tcatch (name := x_IS) M [⟨0, 9, 12, 13⟩] ⟨0, 9, 15, 24⟩ [] htab (fun z hz => by rw [List.mem_singleton.mp hz]; exact Or.inr ⟨by decide, x_IO, M.2.2.2.2 _ kw_142, TB.2.2.2.1.2.1⟩) rfl (by decide) (M.2.2.2.2 _ kw_252) TB.2.2.1.2.2 (fun q => ?_)
  refine x_astore3 M dL_hang_15 ?_
  refine x_iconst (v := nI 2) M dL_hang_16 (by decide +kernel) ?_
  exact x_iret M hr hlk dL_hang_17 ⟨by decide, by decide⟩ rfl rfl
theorem mv_L_carry : x_MW yL_carry cL_carry 5 (some FieldType.int) [(0, 17, 20, 13), (0, 17, 24, 24)] 4 := ⟨kw_275, kw_16, ⟨by decide +kernel, by decide +kernel⟩, by decide +kernel, kw_274⟩
abbrev rm_L_carry : Room := { frames := 2, cells := 0, slots := 0, locals := 44 }
abbrev rt_L_carry : Room := { frames := 8, cells := 1, slots := 6, locals := 126 }
set_option maxRecDepth 20000 in
set_option maxHeartbeats 2000000 in
theorem h_carry {a b : Int32} {Pr : Prop} [Decidable Pr] {X2 : St} (hC : x_Ret l D kc A yX2_carry cX2_carry 4 (some FieldType.boolean) rm_X2_carry [.ref (ad 0), .int a, .int b] (wl kc ad (X) B th (ov) hw) (some (.int (if Pr then 1 else 0))) (wl kc ad (X2) B th (ov) hw)) : x_RetW l D kc A yL_carry cL_carry 5 (some FieldType.int) [(0, 17, 20, 13), (0, 17, 24, 24)] rm_L_carry [.ref (ad 0), .int a, .int b, .ref (ad 18)] (wl kc ad (X) B th (ov) hw) (some (.int (nI 0))) (wl kc ad (X2) B th ((if Pr then 1 else 0)) hw) := by
  refine x_retW_of RL (by decide +kernel) rfl [some (.ref (ad 0)), some (.int a), some (.int b), some (.ref (ad 18)), none] (Nat.le_of_ble_eq_true rfl) rfl rfl ?_
  intro p e s m args below meth c M hr hlk htab TB hAA
  refine x_aload3 M dL_carry_0 ?_
  refine x_iconst (v := nI 0) M dL_carry_1 (by decide +kernel) ?_
  refine x_aload0 M dL_carry_2 ?_
  refine x_iload1 M dL_carry_3 ?_
  refine x_iload2 M dL_carry_4 ?_
  refine x_callV0 M TB hAA mv_X2_carry kw_276 dL_carry_5 hC rfl wl_X rfl rfl ⟨by decide, by decide⟩ ⟨by decide, by decide⟩ (Nat.le_of_ble_eq_true rfl) ?_
  refine b_if_eq (tgt := 15) M dL_carry_8 (by decide) (fun q8 => ?_) (fun q8 => ?_)
  · refine x_lconst (v := 0) M dL_carry_15 (by decide) ?_
    refine sQ M TB dL_carry_16 ?_
    refine x_goto (tgt := 28) M dL_carry_17 (by decide) ?_
    refine x_iconst (v := nI 0) M dL_carry_28 (by decide +kernel) ?_
    exact x_iret M hr hlk dL_carry_29 ⟨by decide, by decide⟩ rfl (by rw [if_neg q8])
  · refine x_lconst (v := 1) M dL_carry_11 (by decide) ?_
    refine x_goto (tgt := 16) M dL_carry_12 (by decide) ?_
    refine sQ M TB dL_carry_16 ?_
    refine x_goto (tgt := 28) M dL_carry_17 (by decide) ?_
    refine x_iconst (v := nI 0) M dL_carry_28 (by decide +kernel) ?_
    exact x_iret M hr hlk dL_carry_29 ⟨by decide, by decide⟩ rfl (by rw [if_pos q8])
set_option maxRecDepth 20000 in
set_option maxHeartbeats 2000000 in
theorem h_carry_1 {a b : Int32} (hT : x_Thr l D kc A yX2_carry cX2_carry 4 (some FieldType.boolean) rt_X2_carry [.ref (ad 0), .int a, .int b] (wl kc ad (X) B th (ov) hw) x_IO) : x_RetW l D kc A yL_carry cL_carry 5 (some FieldType.int) [(0, 17, 20, 13), (0, 17, 24, 24)] rt_L_carry [.ref (ad 0), .int a, .int b, .ref (ad 18)] (wl kc ad (X) B th (ov) hw) (some (.int (nI 1))) (wl kc ad (X) B th (ov) hw) := by
  refine x_retW_of RL (by decide +kernel) rfl [some (.ref (ad 0)), some (.int a), some (.int b), some (.ref (ad 18)), none] (Nat.le_of_ble_eq_true rfl) rfl rfl ?_
  intro p e s m args below meth c M hr hlk htab TB hAA
  refine x_aload3 M dL_carry_0 ?_
  refine x_iconst (v := nI 0) M dL_carry_1 (by decide +kernel) ?_
  refine x_aload0 M dL_carry_2 ?_
  refine x_iload1 M dL_carry_3 ?_
  refine x_iload2 M dL_carry_4 ?_
  refine x_callVT M TB hAA mv_X2_carry kw_276 dL_carry_5 hT rfl wl_X rfl rfl ⟨by decide, by decide⟩ ⟨by decide, by decide⟩ (Nat.le_of_ble_eq_true rfl) ?_
  refine x_Tcatch (name := x_IO) M [] ⟨0, 17, 20, 13⟩ [⟨0, 17, 24, 24⟩] htab (fun z hz => absurd hz List.not_mem_nil) rfl (by decide) (M.2.2.2.2 _ kw_142) TB.2.2.1.1 (fun q => ?_)
  refine x_astore4 M dL_carry_20 ?_
  refine x_iconst (v := nI 1) M dL_carry_22 (by decide +kernel) ?_
  exact x_iret M hr hlk dL_carry_23 ⟨by decide, by decide⟩ rfl rfl
set_option maxRecDepth 20000 in
set_option maxHeartbeats 2000000 in
theorem h_carry_2 {a b : Int32} (hT : x_Thr l D kc A yX2_carry cX2_carry 4 (some FieldType.boolean) rt_X2_carry [.ref (ad 0), .int a, .int b] (wl kc ad (X) B th (ov) hw) x_IS) : x_RetW l D kc A yL_carry cL_carry 5 (some FieldType.int) [(0, 17, 20, 13), (0, 17, 24, 24)] rt_L_carry [.ref (ad 0), .int a, .int b, .ref (ad 18)] (wl kc ad (X) B th (ov) hw) (some (.int (nI 2))) (wl kc ad (X) B th (ov) hw) := by
  refine x_retW_of RL (by decide +kernel) rfl [some (.ref (ad 0)), some (.int a), some (.int b), some (.ref (ad 18)), none] (Nat.le_of_ble_eq_true rfl) rfl rfl ?_
  intro p e s m args below meth c M hr hlk htab TB hAA
  refine x_aload3 M dL_carry_0 ?_
  refine x_iconst (v := nI 0) M dL_carry_1 (by decide +kernel) ?_
  refine x_aload0 M dL_carry_2 ?_
  refine x_iload1 M dL_carry_3 ?_
  refine x_iload2 M dL_carry_4 ?_
  refine x_callVT M TB hAA mv_X2_carry kw_276 dL_carry_5 hT rfl wl_X rfl rfl ⟨by decide, by decide⟩ ⟨by decide, by decide⟩ (Nat.le_of_ble_eq_true rfl) ?_
  refine x_Tcatch (name := x_IS) M [⟨0, 17, 20, 13⟩] ⟨0, 17, 24, 24⟩ [] htab (fun z hz => by rw [List.mem_singleton.mp hz]; exact Or.inr ⟨by decide, x_IO, M.2.2.2.2 _ kw_142, TB.2.2.2.1.2.1⟩) rfl (by decide) (M.2.2.2.2 _ kw_252) TB.2.2.1.2.2 (fun q => ?_)
  refine x_astore4 M dL_carry_24 ?_
  refine x_iconst (v := nI 2) M dL_carry_26 (by decide +kernel) ?_
  exact x_iret M hr hlk dL_carry_27 ⟨by decide, by decide⟩ rfl rfl
theorem mv_L_charge : x_MW yL_charge cL_charge 4 (some FieldType.int) [(0, 9, 12, 13)] 3 := ⟨kw_288, kw_16, ⟨by decide +kernel, by decide +kernel⟩, by decide +kernel, kw_287⟩
abbrev rm_L_charge : Room := { frames := 2, cells := 0, slots := 0, locals := 44 }
abbrev rt_L_charge : Room := { frames := 8, cells := 1, slots := 6, locals := 126 }
set_option maxRecDepth 20000 in
set_option maxHeartbeats 2000000 in
theorem h_charge {a : Int32} {r : Int32} {X2 : St} (hC : x_Ret l D kc A yX2_charge cX2_charge 4 (some FieldType.int) rm_X2_charge [.ref (ad 0), .int a] (wl kc ad (X) B th (ov) hw) (some (.int r)) (wl kc ad (X2) B th (ov) hw)) : x_RetW l D kc A yL_charge cL_charge 4 (some FieldType.int) [(0, 9, 12, 13)] rm_L_charge [.ref (ad 0), .int a, .ref (ad 18)] (wl kc ad (X) B th (ov) hw) (some (.int (nI 0))) (wl kc ad (X2) B th (r.toInt64) hw) := by
  refine x_retW_of RL (by decide +kernel) rfl [some (.ref (ad 0)), some (.int a), some (.ref (ad 18)), none] (Nat.le_of_ble_eq_true rfl) rfl rfl ?_
  intro p e s m args below meth c M hr hlk htab TB hAA
  refine x_aload2 M dL_charge_0 ?_
  refine x_iconst (v := nI 0) M dL_charge_1 (by decide +kernel) ?_
  refine x_aload0 M dL_charge_2 ?_
  refine x_iload1 M dL_charge_3 ?_
  refine x_callV0 M TB hAA mv_X2_charge kw_289 dL_charge_4 hC rfl wl_X rfl rfl ⟨by decide, by decide⟩ ⟨by decide, by decide⟩ (Nat.le_of_ble_eq_true rfl) ?_
  refine x_i2l M dL_charge_7 ?_
  refine sQ M TB dL_charge_8 ?_
  refine x_goto (tgt := 15) M dL_charge_9 (by decide) ?_
  refine x_iconst (v := nI 0) M dL_charge_15 (by decide +kernel) ?_
  exact x_iret M hr hlk dL_charge_16 ⟨by decide, by decide⟩ rfl rfl
set_option maxRecDepth 20000 in
set_option maxHeartbeats 2000000 in
theorem h_charge_1 {a : Int32} (hT : x_Thr l D kc A yX2_charge cX2_charge 4 (some FieldType.int) rt_X2_charge [.ref (ad 0), .int a] (wl kc ad (X) B th (ov) hw) x_IO) : x_RetW l D kc A yL_charge cL_charge 4 (some FieldType.int) [(0, 9, 12, 13)] rt_L_charge [.ref (ad 0), .int a, .ref (ad 18)] (wl kc ad (X) B th (ov) hw) (some (.int (nI 1))) (wl kc ad (X) B th (ov) hw) := by
  refine x_retW_of RL (by decide +kernel) rfl [some (.ref (ad 0)), some (.int a), some (.ref (ad 18)), none] (Nat.le_of_ble_eq_true rfl) rfl rfl ?_
  intro p e s m args below meth c M hr hlk htab TB hAA
  refine x_aload2 M dL_charge_0 ?_
  refine x_iconst (v := nI 0) M dL_charge_1 (by decide +kernel) ?_
  refine x_aload0 M dL_charge_2 ?_
  refine x_iload1 M dL_charge_3 ?_
  refine x_callVT M TB hAA mv_X2_charge kw_289 dL_charge_4 hT rfl wl_X rfl rfl ⟨by decide, by decide⟩ ⟨by decide, by decide⟩ (Nat.le_of_ble_eq_true rfl) ?_
  refine x_Tcatch (name := x_IO) M [] ⟨0, 9, 12, 13⟩ [] htab (fun z hz => absurd hz List.not_mem_nil) rfl (by decide) (M.2.2.2.2 _ kw_142) TB.2.2.1.1 (fun q => ?_)
  refine x_astore3 M dL_charge_12 ?_
  refine x_iconst (v := nI 1) M dL_charge_13 (by decide +kernel) ?_
  exact x_iret M hr hlk dL_charge_14 ⟨by decide, by decide⟩ rfl rfl
theorem mv_L_loseSendings : x_MW yL_loseSendings cL_loseSendings 5 (some FieldType.int) [(0, 10, 13, 13), (0, 10, 17, 15)] 4 := ⟨kw_295, kw_16, ⟨by decide +kernel, by decide +kernel⟩, by decide +kernel, kw_294⟩
abbrev rm_L_loseSendings : Room := { frames := 2, cells := 0, slots := 0, locals := 46 }
abbrev rt_L_loseSendings : Room := { frames := 8, cells := 1, slots := 6, locals := 128 }
set_option maxRecDepth 20000 in
set_option maxHeartbeats 2000000 in
theorem h_loseSendings {a b : Int32} {r : Int32} {X2 : St} (hC : x_Ret l D kc A yX2_loseSendings cX2_loseSendings 5 (some FieldType.int) rm_X2_loseSendings [.ref (ad 0), .int a, .int b] (wl kc ad (X) B th (ov) hw) (some (.int r)) (wl kc ad (X2) B th (ov) hw)) : x_RetW l D kc A yL_loseSendings cL_loseSendings 5 (some FieldType.int) [(0, 10, 13, 13), (0, 10, 17, 15)] rm_L_loseSendings [.ref (ad 0), .int a, .int b, .ref (ad 18)] (wl kc ad (X) B th (ov) hw) (some (.int (nI 0))) (wl kc ad (X2) B th (r.toInt64) hw) := by
  refine x_retW_of RL (by decide +kernel) rfl [some (.ref (ad 0)), some (.int a), some (.int b), some (.ref (ad 18)), none] (Nat.le_of_ble_eq_true rfl) rfl rfl ?_
  intro p e s m args below meth c M hr hlk htab TB hAA
  refine x_aload3 M dL_loseSendings_0 ?_
  refine x_iconst (v := nI 0) M dL_loseSendings_1 (by decide +kernel) ?_
  refine x_aload0 M dL_loseSendings_2 ?_
  refine x_iload1 M dL_loseSendings_3 ?_
  refine x_iload2 M dL_loseSendings_4 ?_
  refine x_callV0 M TB hAA mv_X2_loseSendings kw_296 dL_loseSendings_5 hC rfl wl_X rfl rfl ⟨by decide, by decide⟩ ⟨by decide, by decide⟩ (Nat.le_of_ble_eq_true rfl) ?_
  refine x_i2l M dL_loseSendings_8 ?_
  refine sQ M TB dL_loseSendings_9 ?_
  refine x_goto (tgt := 21) M dL_loseSendings_10 (by decide) ?_
  refine x_iconst (v := nI 0) M dL_loseSendings_21 (by decide +kernel) ?_
  exact x_iret M hr hlk dL_loseSendings_22 ⟨by decide, by decide⟩ rfl rfl
set_option maxRecDepth 20000 in
set_option maxHeartbeats 2000000 in
theorem h_loseSendings_1 {a b : Int32} (hT : x_Thr l D kc A yX2_loseSendings cX2_loseSendings 5 (some FieldType.int) rt_X2_loseSendings [.ref (ad 0), .int a, .int b] (wl kc ad (X) B th (ov) hw) x_IO) : x_RetW l D kc A yL_loseSendings cL_loseSendings 5 (some FieldType.int) [(0, 10, 13, 13), (0, 10, 17, 15)] rt_L_loseSendings [.ref (ad 0), .int a, .int b, .ref (ad 18)] (wl kc ad (X) B th (ov) hw) (some (.int (nI 1))) (wl kc ad (X) B th (ov) hw) := by
  refine x_retW_of RL (by decide +kernel) rfl [some (.ref (ad 0)), some (.int a), some (.int b), some (.ref (ad 18)), none] (Nat.le_of_ble_eq_true rfl) rfl rfl ?_
  intro p e s m args below meth c M hr hlk htab TB hAA
  refine x_aload3 M dL_loseSendings_0 ?_
  refine x_iconst (v := nI 0) M dL_loseSendings_1 (by decide +kernel) ?_
  refine x_aload0 M dL_loseSendings_2 ?_
  refine x_iload1 M dL_loseSendings_3 ?_
  refine x_iload2 M dL_loseSendings_4 ?_
  refine x_callVT M TB hAA mv_X2_loseSendings kw_296 dL_loseSendings_5 hT rfl wl_X rfl rfl ⟨by decide, by decide⟩ ⟨by decide, by decide⟩ (Nat.le_of_ble_eq_true rfl) ?_
  refine x_Tcatch (name := x_IO) M [] ⟨0, 10, 13, 13⟩ [⟨0, 10, 17, 15⟩] htab (fun z hz => absurd hz List.not_mem_nil) rfl (by decide) (M.2.2.2.2 _ kw_142) TB.2.2.1.1 (fun q => ?_)
  refine x_astore4 M dL_loseSendings_13 ?_
  refine x_iconst (v := nI 1) M dL_loseSendings_15 (by decide +kernel) ?_
  exact x_iret M hr hlk dL_loseSendings_16 ⟨by decide, by decide⟩ rfl rfl
set_option maxRecDepth 20000 in
set_option maxHeartbeats 2000000 in
theorem h_loseSendings_2 {a b : Int32} (hT : x_Thr l D kc A yX2_loseSendings cX2_loseSendings 5 (some FieldType.int) rt_X2_loseSendings [.ref (ad 0), .int a, .int b] (wl kc ad (X) B th (ov) hw) x_IA) : x_RetW l D kc A yL_loseSendings cL_loseSendings 5 (some FieldType.int) [(0, 10, 13, 13), (0, 10, 17, 15)] rt_L_loseSendings [.ref (ad 0), .int a, .int b, .ref (ad 18)] (wl kc ad (X) B th (ov) hw) (some (.int (nI 2))) (wl kc ad (X) B th (ov) hw) := by
  refine x_retW_of RL (by decide +kernel) rfl [some (.ref (ad 0)), some (.int a), some (.int b), some (.ref (ad 18)), none] (Nat.le_of_ble_eq_true rfl) rfl rfl ?_
  intro p e s m args below meth c M hr hlk htab TB hAA
  refine x_aload3 M dL_loseSendings_0 ?_
  refine x_iconst (v := nI 0) M dL_loseSendings_1 (by decide +kernel) ?_
  refine x_aload0 M dL_loseSendings_2 ?_
  refine x_iload1 M dL_loseSendings_3 ?_
  refine x_iload2 M dL_loseSendings_4 ?_
  refine x_callVT M TB hAA mv_X2_loseSendings kw_296 dL_loseSendings_5 hT rfl wl_X rfl rfl ⟨by decide, by decide⟩ ⟨by decide, by decide⟩ (Nat.le_of_ble_eq_true rfl) ?_
  refine x_Tcatch (name := x_IA) M [⟨0, 10, 13, 13⟩] ⟨0, 10, 17, 15⟩ [] htab (fun z hz => by rw [List.mem_singleton.mp hz]; exact Or.inr ⟨by decide, x_IO, M.2.2.2.2 _ kw_142, TB.2.2.2.1.1⟩) rfl (by decide) (M.2.2.2.2 _ kw_143) TB.2.2.1.2.1 (fun q => ?_)
  refine x_astore4 M dL_loseSendings_17 ?_
  refine x_iconst (v := nI 2) M dL_loseSendings_19 (by decide +kernel) ?_
  exact x_iret M hr hlk dL_loseSendings_20 ⟨by decide, by decide⟩ rfl rfl
theorem mv_L_loseAnswers : x_MW yL_loseAnswers cL_loseAnswers 5 (some FieldType.int) [(0, 10, 13, 13), (0, 10, 17, 15)] 4 := ⟨kw_302, kw_16, ⟨by decide +kernel, by decide +kernel⟩, by decide +kernel, kw_301⟩
abbrev rm_L_loseAnswers : Room := { frames := 2, cells := 0, slots := 0, locals := 46 }
abbrev rt_L_loseAnswers : Room := { frames := 8, cells := 1, slots := 6, locals := 128 }
set_option maxRecDepth 20000 in
set_option maxHeartbeats 2000000 in
theorem h_loseAnswers {a b : Int32} {r : Int32} {X2 : St} (hC : x_Ret l D kc A yX2_loseAnswers cX2_loseAnswers 5 (some FieldType.int) rm_X2_loseAnswers [.ref (ad 0), .int a, .int b] (wl kc ad (X) B th (ov) hw) (some (.int r)) (wl kc ad (X2) B th (ov) hw)) : x_RetW l D kc A yL_loseAnswers cL_loseAnswers 5 (some FieldType.int) [(0, 10, 13, 13), (0, 10, 17, 15)] rm_L_loseAnswers [.ref (ad 0), .int a, .int b, .ref (ad 18)] (wl kc ad (X) B th (ov) hw) (some (.int (nI 0))) (wl kc ad (X2) B th (r.toInt64) hw) := by
  refine x_retW_of RL (by decide +kernel) rfl [some (.ref (ad 0)), some (.int a), some (.int b), some (.ref (ad 18)), none] (Nat.le_of_ble_eq_true rfl) rfl rfl ?_
  intro p e s m args below meth c M hr hlk htab TB hAA
  refine x_aload3 M dL_loseAnswers_0 ?_
  refine x_iconst (v := nI 0) M dL_loseAnswers_1 (by decide +kernel) ?_
  refine x_aload0 M dL_loseAnswers_2 ?_
  refine x_iload1 M dL_loseAnswers_3 ?_
  refine x_iload2 M dL_loseAnswers_4 ?_
  refine x_callV0 M TB hAA mv_X2_loseAnswers kw_303 dL_loseAnswers_5 hC rfl wl_X rfl rfl ⟨by decide, by decide⟩ ⟨by decide, by decide⟩ (Nat.le_of_ble_eq_true rfl) ?_
  refine x_i2l M dL_loseAnswers_8 ?_
  refine sQ M TB dL_loseAnswers_9 ?_
  refine x_goto (tgt := 21) M dL_loseAnswers_10 (by decide) ?_
  refine x_iconst (v := nI 0) M dL_loseAnswers_21 (by decide +kernel) ?_
  exact x_iret M hr hlk dL_loseAnswers_22 ⟨by decide, by decide⟩ rfl rfl
set_option maxRecDepth 20000 in
set_option maxHeartbeats 2000000 in
theorem h_loseAnswers_1 {a b : Int32} (hT : x_Thr l D kc A yX2_loseAnswers cX2_loseAnswers 5 (some FieldType.int) rt_X2_loseAnswers [.ref (ad 0), .int a, .int b] (wl kc ad (X) B th (ov) hw) x_IO) : x_RetW l D kc A yL_loseAnswers cL_loseAnswers 5 (some FieldType.int) [(0, 10, 13, 13), (0, 10, 17, 15)] rt_L_loseAnswers [.ref (ad 0), .int a, .int b, .ref (ad 18)] (wl kc ad (X) B th (ov) hw) (some (.int (nI 1))) (wl kc ad (X) B th (ov) hw) := by
  refine x_retW_of RL (by decide +kernel) rfl [some (.ref (ad 0)), some (.int a), some (.int b), some (.ref (ad 18)), none] (Nat.le_of_ble_eq_true rfl) rfl rfl ?_
  intro p e s m args below meth c M hr hlk htab TB hAA
  refine x_aload3 M dL_loseAnswers_0 ?_
  refine x_iconst (v := nI 0) M dL_loseAnswers_1 (by decide +kernel) ?_
  refine x_aload0 M dL_loseAnswers_2 ?_
  refine x_iload1 M dL_loseAnswers_3 ?_
  refine x_iload2 M dL_loseAnswers_4 ?_
  refine x_callVT M TB hAA mv_X2_loseAnswers kw_303 dL_loseAnswers_5 hT rfl wl_X rfl rfl ⟨by decide, by decide⟩ ⟨by decide, by decide⟩ (Nat.le_of_ble_eq_true rfl) ?_
  refine x_Tcatch (name := x_IO) M [] ⟨0, 10, 13, 13⟩ [⟨0, 10, 17, 15⟩] htab (fun z hz => absurd hz List.not_mem_nil) rfl (by decide) (M.2.2.2.2 _ kw_142) TB.2.2.1.1 (fun q => ?_)
  refine x_astore4 M dL_loseAnswers_13 ?_
  refine x_iconst (v := nI 1) M dL_loseAnswers_15 (by decide +kernel) ?_
  exact x_iret M hr hlk dL_loseAnswers_16 ⟨by decide, by decide⟩ rfl rfl
set_option maxRecDepth 20000 in
set_option maxHeartbeats 2000000 in
theorem h_loseAnswers_2 {a b : Int32} (hT : x_Thr l D kc A yX2_loseAnswers cX2_loseAnswers 5 (some FieldType.int) rt_X2_loseAnswers [.ref (ad 0), .int a, .int b] (wl kc ad (X) B th (ov) hw) x_IA) : x_RetW l D kc A yL_loseAnswers cL_loseAnswers 5 (some FieldType.int) [(0, 10, 13, 13), (0, 10, 17, 15)] rt_L_loseAnswers [.ref (ad 0), .int a, .int b, .ref (ad 18)] (wl kc ad (X) B th (ov) hw) (some (.int (nI 2))) (wl kc ad (X) B th (ov) hw) := by
  refine x_retW_of RL (by decide +kernel) rfl [some (.ref (ad 0)), some (.int a), some (.int b), some (.ref (ad 18)), none] (Nat.le_of_ble_eq_true rfl) rfl rfl ?_
  intro p e s m args below meth c M hr hlk htab TB hAA
  refine x_aload3 M dL_loseAnswers_0 ?_
  refine x_iconst (v := nI 0) M dL_loseAnswers_1 (by decide +kernel) ?_
  refine x_aload0 M dL_loseAnswers_2 ?_
  refine x_iload1 M dL_loseAnswers_3 ?_
  refine x_iload2 M dL_loseAnswers_4 ?_
  refine x_callVT M TB hAA mv_X2_loseAnswers kw_303 dL_loseAnswers_5 hT rfl wl_X rfl rfl ⟨by decide, by decide⟩ ⟨by decide, by decide⟩ (Nat.le_of_ble_eq_true rfl) ?_
  refine x_Tcatch (name := x_IA) M [⟨0, 10, 13, 13⟩] ⟨0, 10, 17, 15⟩ [] htab (fun z hz => by rw [List.mem_singleton.mp hz]; exact Or.inr ⟨by decide, x_IO, M.2.2.2.2 _ kw_142, TB.2.2.2.1.1⟩) rfl (by decide) (M.2.2.2.2 _ kw_143) TB.2.2.1.2.1 (fun q => ?_)
  refine x_astore4 M dL_loseAnswers_17 ?_
  refine x_iconst (v := nI 2) M dL_loseAnswers_19 (by decide +kernel) ?_
  exact x_iret M hr hlk dL_loseAnswers_20 ⟨by decide, by decide⟩ rfl rfl
theorem mv_L_pass : x_MW yL_pass cL_pass 4 (some FieldType.int) [(0, 9, 12, 15), (0, 9, 15, 24)] 3 := ⟨kw_309, kw_16, ⟨by decide +kernel, by decide +kernel⟩, by decide +kernel, kw_308⟩
abbrev rm_L_pass : Room := { frames := 5, cells := 0, slots := 0, locals := 114 }
abbrev rt_L_pass : Room := { frames := 8, cells := 1, slots := 6, locals := 127 }
set_option maxRecDepth 20000 in
set_option maxHeartbeats 2000000 in
theorem h_pass {a : Int32} {r : Int32} {X2 : St} (hC : x_Ret l D kc A yX2_pass cX2_pass 4 (some FieldType.int) rm_X2_pass [.ref (ad 0), .int a] (wl kc ad (X) B th (ov) hw) (some (.int r)) (wl kc ad (X2) B th (ov) hw)) : x_RetW l D kc A yL_pass cL_pass 4 (some FieldType.int) [(0, 9, 12, 15), (0, 9, 15, 24)] rm_L_pass [.ref (ad 0), .int a, .ref (ad 18)] (wl kc ad (X) B th (ov) hw) (some (.int (nI 0))) (wl kc ad (X2) B th (r.toInt64) hw) := by
  refine x_retW_of RL (by decide +kernel) rfl [some (.ref (ad 0)), some (.int a), some (.ref (ad 18)), none] (Nat.le_of_ble_eq_true rfl) rfl rfl ?_
  intro p e s m args below meth c M hr hlk htab TB hAA
  refine x_aload2 M dL_pass_0 ?_
  refine x_iconst (v := nI 0) M dL_pass_1 (by decide +kernel) ?_
  refine x_aload0 M dL_pass_2 ?_
  refine x_iload1 M dL_pass_3 ?_
  refine x_callV0 M TB hAA mv_X2_pass kw_310 dL_pass_4 hC rfl wl_X rfl rfl ⟨by decide, by decide⟩ ⟨by decide, by decide⟩ (Nat.le_of_ble_eq_true rfl) ?_
  refine x_i2l M dL_pass_7 ?_
  refine sQ M TB dL_pass_8 ?_
  refine x_goto (tgt := 18) M dL_pass_9 (by decide) ?_
  refine x_iconst (v := nI 0) M dL_pass_18 (by decide +kernel) ?_
  exact x_iret M hr hlk dL_pass_19 ⟨by decide, by decide⟩ rfl rfl
set_option maxRecDepth 20000 in
set_option maxHeartbeats 2000000 in
theorem h_pass_1 {a : Int32} (hT : x_Thr l D kc A yX2_pass cX2_pass 4 (some FieldType.int) rt_X2_pass [.ref (ad 0), .int a] (wl kc ad (X) B th (ov) hw) x_IA) : x_RetW l D kc A yL_pass cL_pass 4 (some FieldType.int) [(0, 9, 12, 15), (0, 9, 15, 24)] rt_L_pass [.ref (ad 0), .int a, .ref (ad 18)] (wl kc ad (X) B th (ov) hw) (some (.int (nI 1))) (wl kc ad (X) B th (ov) hw) := by
  refine x_retW_of RL (by decide +kernel) rfl [some (.ref (ad 0)), some (.int a), some (.ref (ad 18)), none] (Nat.le_of_ble_eq_true rfl) rfl rfl ?_
  intro p e s m args below meth c M hr hlk htab TB hAA
  refine x_aload2 M dL_pass_0 ?_
  refine x_iconst (v := nI 0) M dL_pass_1 (by decide +kernel) ?_
  refine x_aload0 M dL_pass_2 ?_
  refine x_iload1 M dL_pass_3 ?_
  refine x_callVT M TB hAA mv_X2_pass kw_310 dL_pass_4 hT rfl wl_X rfl rfl ⟨by decide, by decide⟩ ⟨by decide, by decide⟩ (Nat.le_of_ble_eq_true rfl) ?_
  refine x_Tcatch (name := x_IA) M [] ⟨0, 9, 12, 15⟩ [⟨0, 9, 15, 24⟩] htab (fun z hz => absurd hz List.not_mem_nil) rfl (by decide) (M.2.2.2.2 _ kw_143) TB.2.2.1.2.1 (fun q => ?_)
  refine x_astore3 M dL_pass_12 ?_
  refine x_iconst (v := nI 1) M dL_pass_13 (by decide +kernel) ?_
  exact x_iret M hr hlk dL_pass_14 ⟨by decide, by decide⟩ rfl rfl
set_option maxRecDepth 20000 in
set_option maxHeartbeats 2000000 in
theorem h_pass_2 {a : Int32} (hT : x_Thr l D kc A yX2_pass cX2_pass 4 (some FieldType.int) rt_X2_pass [.ref (ad 0), .int a] (wl kc ad (X) B th (ov) hw) x_IS) : x_RetW l D kc A yL_pass cL_pass 4 (some FieldType.int) [(0, 9, 12, 15), (0, 9, 15, 24)] rt_L_pass [.ref (ad 0), .int a, .ref (ad 18)] (wl kc ad (X) B th (ov) hw) (some (.int (nI 2))) (wl kc ad (X) B th (ov) hw) := by
  refine x_retW_of RL (by decide +kernel) rfl [some (.ref (ad 0)), some (.int a), some (.ref (ad 18)), none] (Nat.le_of_ble_eq_true rfl) rfl rfl ?_
  intro p e s m args below meth c M hr hlk htab TB hAA
  refine x_aload2 M dL_pass_0 ?_
  refine x_iconst (v := nI 0) M dL_pass_1 (by decide +kernel) ?_
  refine x_aload0 M dL_pass_2 ?_
  refine x_iload1 M dL_pass_3 ?_
  refine x_callVT M TB hAA mv_X2_pass kw_310 dL_pass_4 hT rfl wl_X rfl rfl ⟨by decide, by decide⟩ ⟨by decide, by decide⟩ (Nat.le_of_ble_eq_true rfl) ?_
  refine x_Tcatch (name := x_IS) M [⟨0, 9, 12, 15⟩] ⟨0, 9, 15, 24⟩ [] htab (fun z hz => by rw [List.mem_singleton.mp hz]; exact Or.inr ⟨by decide, x_IA, M.2.2.2.2 _ kw_143, TB.2.2.2.1.2.2.1⟩) rfl (by decide) (M.2.2.2.2 _ kw_252) TB.2.2.1.2.2 (fun q => ?_)
  refine x_astore3 M dL_pass_15 ?_
  refine x_iconst (v := nI 2) M dL_pass_16 (by decide +kernel) ?_
  exact x_iret M hr hlk dL_pass_17 ⟨by decide, by decide⟩ rfl rfl
theorem mv_L_order : x_MW yL_order cL_order 4 (some FieldType.int) [(0, 9, 12, 13)] 3 := ⟨kw_356, kw_16, ⟨by decide +kernel, by decide +kernel⟩, by decide +kernel, kw_355⟩
abbrev rm_L_order : Room := { frames := 2, cells := 0, slots := 0, locals := 42 }
abbrev rt_L_order : Room := { frames := 8, cells := 1, slots := 6, locals := 124 }
set_option maxRecDepth 20000 in
set_option maxHeartbeats 2000000 in
theorem h_order {a : Int32} {r : Int32} {X2 : St} (hC : x_Ret l D kc A yX2_order cX2_order 2 (some FieldType.int) rm_X2_order [.ref (ad 0), .int a] (wl kc ad (X) B th (ov) hw) (some (.int r)) (wl kc ad (X2) B th (ov) hw)) : x_RetW l D kc A yL_order cL_order 4 (some FieldType.int) [(0, 9, 12, 13)] rm_L_order [.ref (ad 0), .int a, .ref (ad 18)] (wl kc ad (X) B th (ov) hw) (some (.int (nI 0))) (wl kc ad (X2) B th (r.toInt64) hw) := by
  refine x_retW_of RL (by decide +kernel) rfl [some (.ref (ad 0)), some (.int a), some (.ref (ad 18)), none] (Nat.le_of_ble_eq_true rfl) rfl rfl ?_
  intro p e s m args below meth c M hr hlk htab TB hAA
  refine x_aload2 M dL_order_0 ?_
  refine x_iconst (v := nI 0) M dL_order_1 (by decide +kernel) ?_
  refine x_aload0 M dL_order_2 ?_
  refine x_iload1 M dL_order_3 ?_
  refine x_callV0 M TB hAA mv_X2_order kw_357 dL_order_4 hC rfl wl_X rfl rfl ⟨by decide, by decide⟩ ⟨by decide, by decide⟩ (Nat.le_of_ble_eq_true rfl) ?_
  refine x_i2l M dL_order_7 ?_
  refine sQ M TB dL_order_8 ?_
  refine x_goto (tgt := 15) M dL_order_9 (by decide) ?_
  refine x_iconst (v := nI 0) M dL_order_15 (by decide +kernel) ?_
  exact x_iret M hr hlk dL_order_16 ⟨by decide, by decide⟩ rfl rfl
set_option maxRecDepth 20000 in
set_option maxHeartbeats 2000000 in
theorem h_order_1 {a : Int32} (hT : x_Thr l D kc A yX2_order cX2_order 2 (some FieldType.int) rt_X2_order [.ref (ad 0), .int a] (wl kc ad (X) B th (ov) hw) x_IO) : x_RetW l D kc A yL_order cL_order 4 (some FieldType.int) [(0, 9, 12, 13)] rt_L_order [.ref (ad 0), .int a, .ref (ad 18)] (wl kc ad (X) B th (ov) hw) (some (.int (nI 1))) (wl kc ad (X) B th (ov) hw) := by
  refine x_retW_of RL (by decide +kernel) rfl [some (.ref (ad 0)), some (.int a), some (.ref (ad 18)), none] (Nat.le_of_ble_eq_true rfl) rfl rfl ?_
  intro p e s m args below meth c M hr hlk htab TB hAA
  refine x_aload2 M dL_order_0 ?_
  refine x_iconst (v := nI 0) M dL_order_1 (by decide +kernel) ?_
  refine x_aload0 M dL_order_2 ?_
  refine x_iload1 M dL_order_3 ?_
  refine x_callVT M TB hAA mv_X2_order kw_357 dL_order_4 hT rfl wl_X rfl rfl ⟨by decide, by decide⟩ ⟨by decide, by decide⟩ (Nat.le_of_ble_eq_true rfl) ?_
  refine x_Tcatch (name := x_IO) M [] ⟨0, 9, 12, 13⟩ [] htab (fun z hz => absurd hz List.not_mem_nil) rfl (by decide) (M.2.2.2.2 _ kw_142) TB.2.2.1.1 (fun q => ?_)
  refine x_astore3 M dL_order_12 ?_
  refine x_iconst (v := nI 1) M dL_order_13 (by decide +kernel) ?_
  exact x_iret M hr hlk dL_order_14 ⟨by decide, by decide⟩ rfl rfl
theorem mv_L_shown : x_MW yL_shown cL_shown 4 (some FieldType.int) [(0, 9, 12, 13)] 3 := ⟨kw_363, kw_16, ⟨by decide +kernel, by decide +kernel⟩, by decide +kernel, kw_362⟩
abbrev rm_L_shown : Room := { frames := 2, cells := 0, slots := 0, locals := 42 }
abbrev rt_L_shown : Room := { frames := 8, cells := 1, slots := 6, locals := 124 }
set_option maxRecDepth 20000 in
set_option maxHeartbeats 2000000 in
theorem h_shown {a : Int32} {r : Int32} {X2 : St} (hC : x_Ret l D kc A yX2_shown cX2_shown 2 (some FieldType.int) rm_X2_shown [.ref (ad 0), .int a] (wl kc ad (X) B th (ov) hw) (some (.int r)) (wl kc ad (X2) B th (ov) hw)) : x_RetW l D kc A yL_shown cL_shown 4 (some FieldType.int) [(0, 9, 12, 13)] rm_L_shown [.ref (ad 0), .int a, .ref (ad 18)] (wl kc ad (X) B th (ov) hw) (some (.int (nI 0))) (wl kc ad (X2) B th (r.toInt64) hw) := by
  refine x_retW_of RL (by decide +kernel) rfl [some (.ref (ad 0)), some (.int a), some (.ref (ad 18)), none] (Nat.le_of_ble_eq_true rfl) rfl rfl ?_
  intro p e s m args below meth c M hr hlk htab TB hAA
  refine x_aload2 M dL_shown_0 ?_
  refine x_iconst (v := nI 0) M dL_shown_1 (by decide +kernel) ?_
  refine x_aload0 M dL_shown_2 ?_
  refine x_iload1 M dL_shown_3 ?_
  refine x_callV0 M TB hAA mv_X2_shown kw_364 dL_shown_4 hC rfl wl_X rfl rfl ⟨by decide, by decide⟩ ⟨by decide, by decide⟩ (Nat.le_of_ble_eq_true rfl) ?_
  refine x_i2l M dL_shown_7 ?_
  refine sQ M TB dL_shown_8 ?_
  refine x_goto (tgt := 15) M dL_shown_9 (by decide) ?_
  refine x_iconst (v := nI 0) M dL_shown_15 (by decide +kernel) ?_
  exact x_iret M hr hlk dL_shown_16 ⟨by decide, by decide⟩ rfl rfl
set_option maxRecDepth 20000 in
set_option maxHeartbeats 2000000 in
theorem h_shown_1 {a : Int32} (hT : x_Thr l D kc A yX2_shown cX2_shown 2 (some FieldType.int) rt_X2_shown [.ref (ad 0), .int a] (wl kc ad (X) B th (ov) hw) x_IO) : x_RetW l D kc A yL_shown cL_shown 4 (some FieldType.int) [(0, 9, 12, 13)] rt_L_shown [.ref (ad 0), .int a, .ref (ad 18)] (wl kc ad (X) B th (ov) hw) (some (.int (nI 1))) (wl kc ad (X) B th (ov) hw) := by
  refine x_retW_of RL (by decide +kernel) rfl [some (.ref (ad 0)), some (.int a), some (.ref (ad 18)), none] (Nat.le_of_ble_eq_true rfl) rfl rfl ?_
  intro p e s m args below meth c M hr hlk htab TB hAA
  refine x_aload2 M dL_shown_0 ?_
  refine x_iconst (v := nI 0) M dL_shown_1 (by decide +kernel) ?_
  refine x_aload0 M dL_shown_2 ?_
  refine x_iload1 M dL_shown_3 ?_
  refine x_callVT M TB hAA mv_X2_shown kw_364 dL_shown_4 hT rfl wl_X rfl rfl ⟨by decide, by decide⟩ ⟨by decide, by decide⟩ (Nat.le_of_ble_eq_true rfl) ?_
  refine x_Tcatch (name := x_IO) M [] ⟨0, 9, 12, 13⟩ [] htab (fun z hz => absurd hz List.not_mem_nil) rfl (by decide) (M.2.2.2.2 _ kw_142) TB.2.2.1.1 (fun q => ?_)
  refine x_astore3 M dL_shown_12 ?_
  refine x_iconst (v := nI 1) M dL_shown_13 (by decide +kernel) ?_
  exact x_iret M hr hlk dL_shown_14 ⟨by decide, by decide⟩ rfl rfl
theorem mv_L_ghosts : x_MW yL_ghosts cL_ghosts 4 (some FieldType.int) [(0, 9, 12, 13)] 3 := ⟨kw_370, kw_16, ⟨by decide +kernel, by decide +kernel⟩, by decide +kernel, kw_369⟩
abbrev rm_L_ghosts : Room := { frames := 2, cells := 0, slots := 0, locals := 42 }
abbrev rt_L_ghosts : Room := { frames := 8, cells := 1, slots := 6, locals := 124 }
set_option maxRecDepth 20000 in
set_option maxHeartbeats 2000000 in
theorem h_ghosts {a : Int32} {r : Int32} {X2 : St} (hC : x_Ret l D kc A yX2_ghosts cX2_ghosts 2 (some FieldType.int) rm_X2_ghosts [.ref (ad 0), .int a] (wl kc ad (X) B th (ov) hw) (some (.int r)) (wl kc ad (X2) B th (ov) hw)) : x_RetW l D kc A yL_ghosts cL_ghosts 4 (some FieldType.int) [(0, 9, 12, 13)] rm_L_ghosts [.ref (ad 0), .int a, .ref (ad 18)] (wl kc ad (X) B th (ov) hw) (some (.int (nI 0))) (wl kc ad (X2) B th (r.toInt64) hw) := by
  refine x_retW_of RL (by decide +kernel) rfl [some (.ref (ad 0)), some (.int a), some (.ref (ad 18)), none] (Nat.le_of_ble_eq_true rfl) rfl rfl ?_
  intro p e s m args below meth c M hr hlk htab TB hAA
  refine x_aload2 M dL_ghosts_0 ?_
  refine x_iconst (v := nI 0) M dL_ghosts_1 (by decide +kernel) ?_
  refine x_aload0 M dL_ghosts_2 ?_
  refine x_iload1 M dL_ghosts_3 ?_
  refine x_callV0 M TB hAA mv_X2_ghosts kw_371 dL_ghosts_4 hC rfl wl_X rfl rfl ⟨by decide, by decide⟩ ⟨by decide, by decide⟩ (Nat.le_of_ble_eq_true rfl) ?_
  refine x_i2l M dL_ghosts_7 ?_
  refine sQ M TB dL_ghosts_8 ?_
  refine x_goto (tgt := 15) M dL_ghosts_9 (by decide) ?_
  refine x_iconst (v := nI 0) M dL_ghosts_15 (by decide +kernel) ?_
  exact x_iret M hr hlk dL_ghosts_16 ⟨by decide, by decide⟩ rfl rfl
set_option maxRecDepth 20000 in
set_option maxHeartbeats 2000000 in
theorem h_ghosts_1 {a : Int32} (hT : x_Thr l D kc A yX2_ghosts cX2_ghosts 2 (some FieldType.int) rt_X2_ghosts [.ref (ad 0), .int a] (wl kc ad (X) B th (ov) hw) x_IO) : x_RetW l D kc A yL_ghosts cL_ghosts 4 (some FieldType.int) [(0, 9, 12, 13)] rt_L_ghosts [.ref (ad 0), .int a, .ref (ad 18)] (wl kc ad (X) B th (ov) hw) (some (.int (nI 1))) (wl kc ad (X) B th (ov) hw) := by
  refine x_retW_of RL (by decide +kernel) rfl [some (.ref (ad 0)), some (.int a), some (.ref (ad 18)), none] (Nat.le_of_ble_eq_true rfl) rfl rfl ?_
  intro p e s m args below meth c M hr hlk htab TB hAA
  refine x_aload2 M dL_ghosts_0 ?_
  refine x_iconst (v := nI 0) M dL_ghosts_1 (by decide +kernel) ?_
  refine x_aload0 M dL_ghosts_2 ?_
  refine x_iload1 M dL_ghosts_3 ?_
  refine x_callVT M TB hAA mv_X2_ghosts kw_371 dL_ghosts_4 hT rfl wl_X rfl rfl ⟨by decide, by decide⟩ ⟨by decide, by decide⟩ (Nat.le_of_ble_eq_true rfl) ?_
  refine x_Tcatch (name := x_IO) M [] ⟨0, 9, 12, 13⟩ [] htab (fun z hz => absurd hz List.not_mem_nil) rfl (by decide) (M.2.2.2.2 _ kw_142) TB.2.2.1.1 (fun q => ?_)
  refine x_astore3 M dL_ghosts_12 ?_
  refine x_iconst (v := nI 1) M dL_ghosts_13 (by decide +kernel) ?_
  exact x_iret M hr hlk dL_ghosts_14 ⟨by decide, by decide⟩ rfl rfl
theorem mv_L_battery : x_MW yL_battery cL_battery 4 (some FieldType.int) [(0, 9, 12, 13)] 3 := ⟨kw_377, kw_16, ⟨by decide +kernel, by decide +kernel⟩, by decide +kernel, kw_376⟩
abbrev rm_L_battery : Room := { frames := 2, cells := 0, slots := 0, locals := 42 }
abbrev rt_L_battery : Room := { frames := 8, cells := 1, slots := 6, locals := 124 }
set_option maxRecDepth 20000 in
set_option maxHeartbeats 2000000 in
theorem h_battery {a : Int32} {r : Int32} {X2 : St} (hC : x_Ret l D kc A yX2_battery cX2_battery 2 (some FieldType.int) rm_X2_battery [.ref (ad 0), .int a] (wl kc ad (X) B th (ov) hw) (some (.int r)) (wl kc ad (X2) B th (ov) hw)) : x_RetW l D kc A yL_battery cL_battery 4 (some FieldType.int) [(0, 9, 12, 13)] rm_L_battery [.ref (ad 0), .int a, .ref (ad 18)] (wl kc ad (X) B th (ov) hw) (some (.int (nI 0))) (wl kc ad (X2) B th (r.toInt64) hw) := by
  refine x_retW_of RL (by decide +kernel) rfl [some (.ref (ad 0)), some (.int a), some (.ref (ad 18)), none] (Nat.le_of_ble_eq_true rfl) rfl rfl ?_
  intro p e s m args below meth c M hr hlk htab TB hAA
  refine x_aload2 M dL_battery_0 ?_
  refine x_iconst (v := nI 0) M dL_battery_1 (by decide +kernel) ?_
  refine x_aload0 M dL_battery_2 ?_
  refine x_iload1 M dL_battery_3 ?_
  refine x_callV0 M TB hAA mv_X2_battery kw_378 dL_battery_4 hC rfl wl_X rfl rfl ⟨by decide, by decide⟩ ⟨by decide, by decide⟩ (Nat.le_of_ble_eq_true rfl) ?_
  refine x_i2l M dL_battery_7 ?_
  refine sQ M TB dL_battery_8 ?_
  refine x_goto (tgt := 15) M dL_battery_9 (by decide) ?_
  refine x_iconst (v := nI 0) M dL_battery_15 (by decide +kernel) ?_
  exact x_iret M hr hlk dL_battery_16 ⟨by decide, by decide⟩ rfl rfl
set_option maxRecDepth 20000 in
set_option maxHeartbeats 2000000 in
theorem h_battery_1 {a : Int32} (hT : x_Thr l D kc A yX2_battery cX2_battery 2 (some FieldType.int) rt_X2_battery [.ref (ad 0), .int a] (wl kc ad (X) B th (ov) hw) x_IO) : x_RetW l D kc A yL_battery cL_battery 4 (some FieldType.int) [(0, 9, 12, 13)] rt_L_battery [.ref (ad 0), .int a, .ref (ad 18)] (wl kc ad (X) B th (ov) hw) (some (.int (nI 1))) (wl kc ad (X) B th (ov) hw) := by
  refine x_retW_of RL (by decide +kernel) rfl [some (.ref (ad 0)), some (.int a), some (.ref (ad 18)), none] (Nat.le_of_ble_eq_true rfl) rfl rfl ?_
  intro p e s m args below meth c M hr hlk htab TB hAA
  refine x_aload2 M dL_battery_0 ?_
  refine x_iconst (v := nI 0) M dL_battery_1 (by decide +kernel) ?_
  refine x_aload0 M dL_battery_2 ?_
  refine x_iload1 M dL_battery_3 ?_
  refine x_callVT M TB hAA mv_X2_battery kw_378 dL_battery_4 hT rfl wl_X rfl rfl ⟨by decide, by decide⟩ ⟨by decide, by decide⟩ (Nat.le_of_ble_eq_true rfl) ?_
  refine x_Tcatch (name := x_IO) M [] ⟨0, 9, 12, 13⟩ [] htab (fun z hz => absurd hz List.not_mem_nil) rfl (by decide) (M.2.2.2.2 _ kw_142) TB.2.2.1.1 (fun q => ?_)
  refine x_astore3 M dL_battery_12 ?_
  refine x_iconst (v := nI 1) M dL_battery_13 (by decide +kernel) ?_
  exact x_iret M hr hlk dL_battery_14 ⟨by decide, by decide⟩ rfl rfl
theorem mv_L_asked : x_MW yL_asked cL_asked 4 (some FieldType.int) [(0, 9, 12, 13)] 3 := ⟨kw_384, kw_16, ⟨by decide +kernel, by decide +kernel⟩, by decide +kernel, kw_383⟩
abbrev rm_L_asked : Room := { frames := 3, cells := 0, slots := 0, locals := 66 }
abbrev rt_L_asked : Room := { frames := 8, cells := 1, slots := 6, locals := 124 }
set_option maxRecDepth 20000 in
set_option maxHeartbeats 2000000 in
theorem h_asked {a : Int32} {r : Int32} {X2 : St} (hC : x_Ret l D kc A yX2_asked cX2_asked 3 (some FieldType.int) rm_X2_asked [.ref (ad 0), .int a] (wl kc ad (X) B th (ov) hw) (some (.int r)) (wl kc ad (X2) B th (ov) hw)) : x_RetW l D kc A yL_asked cL_asked 4 (some FieldType.int) [(0, 9, 12, 13)] rm_L_asked [.ref (ad 0), .int a, .ref (ad 18)] (wl kc ad (X) B th (ov) hw) (some (.int (nI 0))) (wl kc ad (X2) B th (r.toInt64) hw) := by
  refine x_retW_of RL (by decide +kernel) rfl [some (.ref (ad 0)), some (.int a), some (.ref (ad 18)), none] (Nat.le_of_ble_eq_true rfl) rfl rfl ?_
  intro p e s m args below meth c M hr hlk htab TB hAA
  refine x_aload2 M dL_asked_0 ?_
  refine x_iconst (v := nI 0) M dL_asked_1 (by decide +kernel) ?_
  refine x_aload0 M dL_asked_2 ?_
  refine x_iload1 M dL_asked_3 ?_
  refine x_callV0 M TB hAA mv_X2_asked kw_385 dL_asked_4 hC rfl wl_X rfl rfl ⟨by decide, by decide⟩ ⟨by decide, by decide⟩ (Nat.le_of_ble_eq_true rfl) ?_
  refine x_i2l M dL_asked_7 ?_
  refine sQ M TB dL_asked_8 ?_
  refine x_goto (tgt := 15) M dL_asked_9 (by decide) ?_
  refine x_iconst (v := nI 0) M dL_asked_15 (by decide +kernel) ?_
  exact x_iret M hr hlk dL_asked_16 ⟨by decide, by decide⟩ rfl rfl
set_option maxRecDepth 20000 in
set_option maxHeartbeats 2000000 in
theorem h_asked_1 {a : Int32} (hT : x_Thr l D kc A yX2_asked cX2_asked 3 (some FieldType.int) rt_X2_asked [.ref (ad 0), .int a] (wl kc ad (X) B th (ov) hw) x_IO) : x_RetW l D kc A yL_asked cL_asked 4 (some FieldType.int) [(0, 9, 12, 13)] rt_L_asked [.ref (ad 0), .int a, .ref (ad 18)] (wl kc ad (X) B th (ov) hw) (some (.int (nI 1))) (wl kc ad (X) B th (ov) hw) := by
  refine x_retW_of RL (by decide +kernel) rfl [some (.ref (ad 0)), some (.int a), some (.ref (ad 18)), none] (Nat.le_of_ble_eq_true rfl) rfl rfl ?_
  intro p e s m args below meth c M hr hlk htab TB hAA
  refine x_aload2 M dL_asked_0 ?_
  refine x_iconst (v := nI 0) M dL_asked_1 (by decide +kernel) ?_
  refine x_aload0 M dL_asked_2 ?_
  refine x_iload1 M dL_asked_3 ?_
  refine x_callVT M TB hAA mv_X2_asked kw_385 dL_asked_4 hT rfl wl_X rfl rfl ⟨by decide, by decide⟩ ⟨by decide, by decide⟩ (Nat.le_of_ble_eq_true rfl) ?_
  refine x_Tcatch (name := x_IO) M [] ⟨0, 9, 12, 13⟩ [] htab (fun z hz => absurd hz List.not_mem_nil) rfl (by decide) (M.2.2.2.2 _ kw_142) TB.2.2.1.1 (fun q => ?_)
  refine x_astore3 M dL_asked_12 ?_
  refine x_iconst (v := nI 1) M dL_asked_13 (by decide +kernel) ?_
  exact x_iret M hr hlk dL_asked_14 ⟨by decide, by decide⟩ rfl rfl
theorem mv_L_leastEver : x_MW yL_leastEver cL_leastEver 4 (some FieldType.int) [(0, 9, 12, 13)] 3 := ⟨kw_400, kw_16, ⟨by decide +kernel, by decide +kernel⟩, by decide +kernel, kw_399⟩
abbrev rm_L_leastEver : Room := { frames := 3, cells := 0, slots := 0, locals := 66 }
abbrev rt_L_leastEver : Room := { frames := 8, cells := 1, slots := 6, locals := 124 }
set_option maxRecDepth 20000 in
set_option maxHeartbeats 2000000 in
theorem h_leastEver {a : Int32} {r : Int32} {X2 : St} (hC : x_Ret l D kc A yX2_leastEver cX2_leastEver 3 (some FieldType.int) rm_X2_leastEver [.ref (ad 0), .int a] (wl kc ad (X) B th (ov) hw) (some (.int r)) (wl kc ad (X2) B th (ov) hw)) : x_RetW l D kc A yL_leastEver cL_leastEver 4 (some FieldType.int) [(0, 9, 12, 13)] rm_L_leastEver [.ref (ad 0), .int a, .ref (ad 18)] (wl kc ad (X) B th (ov) hw) (some (.int (nI 0))) (wl kc ad (X2) B th (r.toInt64) hw) := by
  refine x_retW_of RL (by decide +kernel) rfl [some (.ref (ad 0)), some (.int a), some (.ref (ad 18)), none] (Nat.le_of_ble_eq_true rfl) rfl rfl ?_
  intro p e s m args below meth c M hr hlk htab TB hAA
  refine x_aload2 M dL_leastEver_0 ?_
  refine x_iconst (v := nI 0) M dL_leastEver_1 (by decide +kernel) ?_
  refine x_aload0 M dL_leastEver_2 ?_
  refine x_iload1 M dL_leastEver_3 ?_
  refine x_callV0 M TB hAA mv_X2_leastEver kw_401 dL_leastEver_4 hC rfl wl_X rfl rfl ⟨by decide, by decide⟩ ⟨by decide, by decide⟩ (Nat.le_of_ble_eq_true rfl) ?_
  refine x_i2l M dL_leastEver_7 ?_
  refine sQ M TB dL_leastEver_8 ?_
  refine x_goto (tgt := 15) M dL_leastEver_9 (by decide) ?_
  refine x_iconst (v := nI 0) M dL_leastEver_15 (by decide +kernel) ?_
  exact x_iret M hr hlk dL_leastEver_16 ⟨by decide, by decide⟩ rfl rfl
set_option maxRecDepth 20000 in
set_option maxHeartbeats 2000000 in
theorem h_leastEver_1 {a : Int32} (hT : x_Thr l D kc A yX2_leastEver cX2_leastEver 3 (some FieldType.int) rt_X2_leastEver [.ref (ad 0), .int a] (wl kc ad (X) B th (ov) hw) x_IO) : x_RetW l D kc A yL_leastEver cL_leastEver 4 (some FieldType.int) [(0, 9, 12, 13)] rt_L_leastEver [.ref (ad 0), .int a, .ref (ad 18)] (wl kc ad (X) B th (ov) hw) (some (.int (nI 1))) (wl kc ad (X) B th (ov) hw) := by
  refine x_retW_of RL (by decide +kernel) rfl [some (.ref (ad 0)), some (.int a), some (.ref (ad 18)), none] (Nat.le_of_ble_eq_true rfl) rfl rfl ?_
  intro p e s m args below meth c M hr hlk htab TB hAA
  refine x_aload2 M dL_leastEver_0 ?_
  refine x_iconst (v := nI 0) M dL_leastEver_1 (by decide +kernel) ?_
  refine x_aload0 M dL_leastEver_2 ?_
  refine x_iload1 M dL_leastEver_3 ?_
  refine x_callVT M TB hAA mv_X2_leastEver kw_401 dL_leastEver_4 hT rfl wl_X rfl rfl ⟨by decide, by decide⟩ ⟨by decide, by decide⟩ (Nat.le_of_ble_eq_true rfl) ?_
  refine x_Tcatch (name := x_IO) M [] ⟨0, 9, 12, 13⟩ [] htab (fun z hz => absurd hz List.not_mem_nil) rfl (by decide) (M.2.2.2.2 _ kw_142) TB.2.2.1.1 (fun q => ?_)
  refine x_astore3 M dL_leastEver_12 ?_
  refine x_iconst (v := nI 1) M dL_leastEver_13 (by decide +kernel) ?_
  exact x_iret M hr hlk dL_leastEver_14 ⟨by decide, by decide⟩ rfl rfl
end XM
