/-! the reference's methods that the law calls -/
section XM
variable {l : Launch} {D : va_G} {kc : Nat → ClassId} {A : Nat → Prop} {ad : Nat → Nat} {X B : St} {th : Nat} {ov : Int64} {hw : Nat}
theorem gets_8 (S : St) (i : Nat) : gets S i 8 i = S 0 2 + 1 := by
  unfold gets
  rw [up_r _ (by decide), up_s]
theorem Bd_gets {S : St} (h : Bd S) (hm : S 0 2 + 1 < 2 ^ 30) (i : Nat) : Bd (gets S i) := Bd_up (Bd_up (Bd_up h hm) hm) (h 0 1)
theorem mv_X3_price : x_MV yX3_price cX3_price 2 (some FieldType.int) 1 := ⟨kw_486, kw_21, ⟨by decide +kernel, by decide +kernel⟩, by decide +kernel, kw_484, kw_485⟩
abbrev rm_X3_price : Room := { frames := 2, cells := 0, slots := 0, locals := 42 }
set_option maxRecDepth 20000 in
set_option maxHeartbeats 2000000 in
theorem m_price (hO : Ok B) {j : Nat} (hj : j < 12) : x_Ret l D kc A yX3_price cX3_price 2 (some FieldType.int) rm_X3_price [.ref (ad 6), .int (nI j)] (wl kc ad X (B) (th) ov (hw)) (some (.int (nI (B 1 j)))) (wl kc ad X (B) (0) ov (hw)) := by
  refine x_ret_of RX3 (by decide +kernel) rfl [some (.ref (ad 6)), some (.int (nI j))] (Nat.le_of_ble_eq_true rfl) rfl rfl ?_
  intro p e s m args below meth c M hr hlk hnm TB hAA
  refine x_aload0 M dX3_price_0 ?_
  refine x_iload1 M dX3_price_1 ?_
  refine x_callS0 M TB hAA mv_X3_isWare kw_469 dX3_price_2 (m_isWare1 hj) rfl ⟨by decide, by decide⟩ ⟨by decide, by decide⟩ (Nat.le_of_ble_eq_true rfl) ?_
  refine n_if_eq (tgt := 12) M (by first | omega | exact hB _ _) dX3_price_5 (by decide) (fun q5 => absurd q5 (by decide)) (fun q5 => ?_)
  refine x_iconst (v := nI 0) M dX3_price_8 (by decide +kernel) ?_
  refine x_goto (tgt := 13) M dX3_price_9 (by decide) ?_
  refine x_callV0 M TB hAA mv_X3_holds kw_475 dX3_price_13 m_holds0 rfl wl_M rfl rfl ⟨by decide, by decide⟩ ⟨by decide, by decide⟩ (Nat.le_of_ble_eq_true rfl) ?_
  refine n_if_eq (tgt := 28) M (by first | omega | exact hB _ _) dX3_price_16 (by decide) (fun q16 => absurd q16 (by decide)) (fun q16 => ?_)
  refine x_aload0 M dX3_price_19 ?_
  refine gM3 M TB kw_418 dX3_price_20 ?_
  refine x_iload1 M dX3_price_23 ?_
  refine aM1 M TB (by omega) dX3_price_24 ?_
  refine x_goto (tgt := 29) M dX3_price_25 (by decide) ?_
  exact x_iret M hr hlk dX3_price_29 ⟨by decide, by decide⟩ rfl rfl
set_option maxRecDepth 20000 in
set_option maxHeartbeats 2000000 in
theorem m_price1 {x : Int32} (h : bad 12 x) : x_Ret l D kc A yX3_price cX3_price 2 (some FieldType.int) rm_X3_price [.ref (ad 6), .int x] (wl kc ad X (B) (th) ov (hw)) (some (.int (nI 0))) (wl kc ad X (B) (1) ov (hw)) := by
  refine x_ret_of RX3 (by decide +kernel) rfl [some (.ref (ad 6)), some (.int x)] (Nat.le_of_ble_eq_true rfl) rfl rfl ?_
  intro p e s m args below meth c M hr hlk hnm TB hAA
  refine x_aload0 M dX3_price_0 ?_
  refine x_iload1 M dX3_price_1 ?_
  refine x_callS0 M TB hAA mv_X3_isWare kw_469 dX3_price_2 (m_isWare0 h) rfl ⟨by decide, by decide⟩ ⟨by decide, by decide⟩ (Nat.le_of_ble_eq_true rfl) ?_
  refine n_if_eq (tgt := 12) M (by first | omega | exact hB _ _) dX3_price_5 (by decide) (fun q5 => ?_) (fun q5 => absurd rfl q5)
  refine x_iconst (v := nI 1) M dX3_price_12 (by decide +kernel) ?_
  refine x_callV0 M TB hAA mv_X3_holds kw_475 dX3_price_13 (m_holds1 (t := 1) (by decide) (by decide)) rfl wl_M rfl rfl ⟨by decide, by decide⟩ ⟨by decide, by decide⟩ (Nat.le_of_ble_eq_true rfl) ?_
  refine n_if_eq (tgt := 28) M (by first | omega | exact hB _ _) dX3_price_16 (by decide) (fun q16 => ?_) (fun q16 => absurd rfl q16)
  refine x_iconst (v := nI 0) M dX3_price_28 (by decide +kernel) ?_
  exact x_iret M hr hlk dX3_price_29 ⟨by decide, by decide⟩ rfl rfl
theorem mv_X3_hang : x_MV yX3_hang cX3_hang 3 (some FieldType.int) 1 := ⟨kw_490, kw_21, ⟨by decide +kernel, by decide +kernel⟩, by decide +kernel, kw_488, kw_489⟩
abbrev rm_X3_hang : Room := { frames := 2, cells := 0, slots := 0, locals := 42 }
set_option maxRecDepth 20000 in
set_option maxHeartbeats 2000000 in
theorem m_hang (hO : Ok B) (hn : B 0 0 < 12) (h5 : B 5 (B 0 0) = 1000) {j : Nat} (hj : j < 12) : x_Ret l D kc A yX3_hang cX3_hang 3 (some FieldType.int) rm_X3_hang [.ref (ad 6), .int (nI j)] (wl kc ad X (B) (th) ov (B 0 0)) (some (.int (nI (B 0 0)))) (wl kc ad X (hng B j) (0) ov (B 0 0 + 1)) := by
  refine x_ret_of RX3 (by decide +kernel) rfl [some (.ref (ad 6)), some (.int (nI j)), none] (Nat.le_of_ble_eq_true rfl) rfl rfl ?_
  intro p e s m args below meth c M hr hlk hnm TB hAA
  have hB : ∀ r i, B r i < 2 ^ 31 := fun r i => Nat.lt_trans (hO.bd r i) (by decide)
  refine x_iload1 M dX3_hang_0 ?_
  refine x_callS0 M TB hAA mv_X3_isWare kw_469 dX3_hang_1 (m_isWare1 hj) rfl ⟨by decide, by decide⟩ ⟨by decide, by decide⟩ (Nat.le_of_ble_eq_true rfl) ?_
  refine x_istore2 M dX3_hang_4 ?_
  refine x_aload0 M dX3_hang_5 ?_
  refine x_iload2 M dX3_hang_6 ?_
  refine n_if_ne (tgt := 14) M (by first | omega | exact hB _ _) dX3_hang_7 (by decide) (fun q7 => ?_) (fun q7 => absurd q7 (by decide))
  refine x_aload0 M dX3_hang_14 ?_
  refine gM4 M TB kw_419 dX3_hang_15 ?_
  refine x_bipush (v := nI 12) M dX3_hang_18 (by decide +kernel) ?_
  refine n_icmp_ne (tgt := 27) M (by first | omega | exact hB _ _) (by first | omega | exact hB _ _) dX3_hang_20 (by decide) (fun q20 => ?_) (fun q20 => absurd hn (by omega))
  refine x_iconst (v := nI 0) M dX3_hang_27 (by decide +kernel) ?_
  refine x_callV0 M TB hAA mv_X3_holds kw_475 dX3_hang_28 m_holds0 rfl wl_M rfl rfl ⟨by decide, by decide⟩ ⟨by decide, by decide⟩ (Nat.le_of_ble_eq_true rfl) ?_
  refine n_if_ne (tgt := 36) M (by first | omega | exact hB _ _) dX3_hang_31 (by decide) (fun q31 => ?_) (fun q31 => absurd q31 (by decide))
  refine x_aload0 M dX3_hang_36 ?_
  refine gM5 M TB kw_420 dX3_hang_37 ?_
  refine x_aload0 M dX3_hang_40 ?_
  refine gM4 M TB kw_419 dX3_hang_41 ?_
  refine x_iload1 M dX3_hang_44 ?_
  refine sM2 (j := B 0 0) M TB hn dX3_hang_45 ?_
  refine x_aload0 M dX3_hang_46 ?_
  refine gM6 M TB kw_421 dX3_hang_47 ?_
  refine x_aload0 M dX3_hang_50 ?_
  refine gM4 M TB kw_419 dX3_hang_51 ?_
  refine x_aload0 M dX3_hang_54 ?_
  refine gM3 M TB kw_418 dX3_hang_55 ?_
  refine x_iload1 M dX3_hang_58 ?_
  refine aM1 M TB (by omega) dX3_hang_59 ?_
  refine sM3 (j := B 0 0) M TB hn dX3_hang_60 ?_
  refine x_aload0 M dX3_hang_61 ?_
  refine gM8 M TB kw_423 dX3_hang_62 ?_
  refine x_aload0 M dX3_hang_65 ?_
  refine gM4 M TB kw_419 dX3_hang_66 ?_
  refine x_sipush (v := nI 1000) M dX3_hang_69 (by decide +kernel) ?_
  refine sM5n (v := 1000) M TB hn h5 dX3_hang_72 ?_
  refine x_aload0 M dX3_hang_73 ?_
  refine x_dup M dX3_hang_74 rfl ?_
  refine gM4 M TB kw_419 dX3_hang_75 ?_
  refine x_iconst (v := nI 1) M dX3_hang_78 (by decide +kernel) ?_
  refine n_add M dX3_hang_79 ?_
  refine pM4 M TB kw_419 dX3_hang_80 ?_
  refine x_aload0 M dX3_hang_83 ?_
  refine gM4 M TB kw_419 dX3_hang_84 ?_
  refine x_iconst (v := nI 1) M dX3_hang_87 (by decide +kernel) ?_
  refine n_sub (a := B 0 0 + 1) M (by omega) dX3_hang_88 ?_
  exact x_iret M hr hlk dX3_hang_89 ⟨by decide, by decide⟩ (by rw [Nat.add_sub_cancel]) rfl
set_option maxRecDepth 20000 in
set_option maxHeartbeats 2000000 in
theorem m_hang1 {x : Int32} (h : bad 12 x) : x_Ret l D kc A yX3_hang cX3_hang 3 (some FieldType.int) rm_X3_hang [.ref (ad 6), .int x] (wl kc ad X (B) (th) ov (hw)) (some (.int (nI 0))) (wl kc ad X (B) (1) ov (hw)) := by
  refine x_ret_of RX3 (by decide +kernel) rfl [some (.ref (ad 6)), some (.int x), none] (Nat.le_of_ble_eq_true rfl) rfl rfl ?_
  intro p e s m args below meth c M hr hlk hnm TB hAA
  refine x_iload1 M dX3_hang_0 ?_
  refine x_callS0 M TB hAA mv_X3_isWare kw_469 dX3_hang_1 (m_isWare0 h) rfl ⟨by decide, by decide⟩ ⟨by decide, by decide⟩ (Nat.le_of_ble_eq_true rfl) ?_
  refine x_istore2 M dX3_hang_4 ?_
  refine x_aload0 M dX3_hang_5 ?_
  refine x_iload2 M dX3_hang_6 ?_
  refine n_if_ne (tgt := 14) M (by first | omega | exact hB _ _) dX3_hang_7 (by decide) (fun q7 => absurd rfl q7) (fun q7 => ?_)
  refine x_iconst (v := nI 1) M dX3_hang_10 (by decide +kernel) ?_
  refine x_goto (tgt := 28) M dX3_hang_11 (by decide) ?_
  refine x_callV0 M TB hAA mv_X3_holds kw_475 dX3_hang_28 (m_holds1 (t := 1) (by decide) (by decide)) rfl wl_M rfl rfl ⟨by decide, by decide⟩ ⟨by decide, by decide⟩ (Nat.le_of_ble_eq_true rfl) ?_
  refine n_if_ne (tgt := 36) M (by first | omega | exact hB _ _) dX3_hang_31 (by decide) (fun q31 => absurd rfl q31) (fun q31 => ?_)
  refine x_iconst (v := nI 0) M dX3_hang_34 (by decide +kernel) ?_
  exact x_iret M hr hlk dX3_hang_35 ⟨by decide, by decide⟩ rfl rfl
set_option maxRecDepth 20000 in
set_option maxHeartbeats 2000000 in
theorem m_hang2 (hO : Ok B) (hn : 12 ≤ B 0 0) {j : Nat} (hj : j < 12) : x_Ret l D kc A yX3_hang cX3_hang 3 (some FieldType.int) rm_X3_hang [.ref (ad 6), .int (nI j)] (wl kc ad X (B) (th) ov (hw)) (some (.int (nI 0))) (wl kc ad X (B) (2) ov (hw)) := by
  refine x_ret_of RX3 (by decide +kernel) rfl [some (.ref (ad 6)), some (.int (nI j)), none] (Nat.le_of_ble_eq_true rfl) rfl rfl ?_
  intro p e s m args below meth c M hr hlk hnm TB hAA
  have hB : ∀ r i, B r i < 2 ^ 31 := fun r i => Nat.lt_trans (hO.bd r i) (by decide)
  have hn2 := hO.n
  refine x_iload1 M dX3_hang_0 ?_
  refine x_callS0 M TB hAA mv_X3_isWare kw_469 dX3_hang_1 (m_isWare1 hj) rfl ⟨by decide, by decide⟩ ⟨by decide, by decide⟩ (Nat.le_of_ble_eq_true rfl) ?_
  refine x_istore2 M dX3_hang_4 ?_
  refine x_aload0 M dX3_hang_5 ?_
  refine x_iload2 M dX3_hang_6 ?_
  refine n_if_ne (tgt := 14) M (by first | omega | exact hB _ _) dX3_hang_7 (by decide) (fun q7 => ?_) (fun q7 => absurd q7 (by decide))
  refine x_aload0 M dX3_hang_14 ?_
  refine gM4 M TB kw_419 dX3_hang_15 ?_
  refine x_bipush (v := nI 12) M dX3_hang_18 (by decide +kernel) ?_
  refine n_icmp_ne (tgt := 27) M (by first | omega | exact hB _ _) (by first | omega | exact hB _ _) dX3_hang_20 (by decide) (fun q20 => absurd hn (by omega)) (fun q20 => ?_)
  refine x_iconst (v := nI 2) M dX3_hang_23 (by decide +kernel) ?_
  refine x_goto (tgt := 28) M dX3_hang_24 (by decide) ?_
  refine x_callV0 M TB hAA mv_X3_holds kw_475 dX3_hang_28 (m_holds1 (t := 2) (by decide) (by decide)) rfl wl_M rfl rfl ⟨by decide, by decide⟩ ⟨by decide, by decide⟩ (Nat.le_of_ble_eq_true rfl) ?_
  refine n_if_ne (tgt := 36) M (by first | omega | exact hB _ _) dX3_hang_31 (by decide) (fun q31 => absurd rfl q31) (fun q31 => ?_)
  refine x_iconst (v := nI 0) M dX3_hang_34 (by decide +kernel) ?_
  exact x_iret M hr hlk dX3_hang_35 ⟨by decide, by decide⟩ rfl rfl
theorem mv_X3_carry : x_MV yX3_carry cX3_carry 4 (some FieldType.boolean) 2 := ⟨kw_494, kw_21, ⟨by decide +kernel, by decide +kernel⟩, by decide +kernel, kw_492, kw_493⟩
abbrev rm_X3_carry : Room := { frames := 2, cells := 0, slots := 0, locals := 43 }
set_option maxRecDepth 20000 in
set_option maxHeartbeats 2000000 in
theorem m_carry (hO : Ok B) {j : Nat} (hj : j < B 0 0) (hm : B 0 2 + 1 < 2 ^ 30) {w : Nat} (hw12 : w < 12) (hne : B 2 j ≠ w) : x_Ret l D kc A yX3_carry cX3_carry 4 (some FieldType.boolean) rm_X3_carry [.ref (ad 6), .int (nI j), .int (nI w)] (wl kc ad X (B) (th) ov (hw)) (some (.int (if ¬ B 3 j = B 1 w then 1 else 0 : Int32))) (wl kc ad X (car B j w) (0) ov (hw)) := by
  refine x_ret_of RX3 (by decide +kernel) rfl [some (.ref (ad 6)), some (.int (nI j)), some (.int (nI w)), none] (Nat.le_of_ble_eq_true rfl) rfl rfl ?_
  intro p e s m args below meth c M hr hlk hnm TB hAA
  have hB : ∀ r i, B r i < 2 ^ 31 := fun r i => Nat.lt_trans (hO.bd r i) (by decide)
  have hn := hO.n
  have hZ : Bd (up (up B 2 j w) 8 j 0) := Bd_up (Bd_up hO.bd (by omega)) (by omega)
  have hG : Bd (gets (up (up B 2 j w) 8 j 0) j) := Bd_gets hZ hm j
  refine x_aload0 M dX3_carry_0 ?_
  refine x_iload1 M dX3_carry_1 ?_
  refine x_callV0 M TB hAA mv_X3_isLabel kw_495 dX3_carry_2 (m_isLabel1 hO hj) rfl wl_M rfl rfl ⟨by decide, by decide⟩ ⟨by decide, by decide⟩ (Nat.le_of_ble_eq_true rfl) ?_
  refine n_if_eq (tgt := 19) M (by first | omega | exact hB _ _) dX3_carry_5 (by decide) (fun q5 => absurd q5 (by decide)) (fun q5 => ?_)
  refine x_iload2 M dX3_carry_8 ?_
  refine x_callS0 M TB hAA mv_X3_isWare kw_469 dX3_carry_9 (m_isWare1 hw12) rfl ⟨by decide, by decide⟩ ⟨by decide, by decide⟩ (Nat.le_of_ble_eq_true rfl) ?_
  refine n_if_eq (tgt := 19) M (by first | omega | exact hB _ _) dX3_carry_12 (by decide) (fun q12 => absurd q12 (by decide)) (fun q12 => ?_)
  refine x_iconst (v := nI 1) M dX3_carry_15 (by decide +kernel) ?_
  refine x_goto (tgt := 20) M dX3_carry_16 (by decide) ?_
  refine x_istore3 M dX3_carry_20 ?_
  refine x_aload0 M dX3_carry_21 ?_
  refine x_iload3 M dX3_carry_22 ?_
  refine n_if_ne (tgt := 30) M (by first | omega | exact hB _ _) dX3_carry_23 (by decide) (fun q23 => ?_) (fun q23 => absurd q23 (by decide))
  refine x_aload0 M dX3_carry_30 ?_
  refine gM5 M TB kw_420 dX3_carry_31 ?_
  refine x_iload1 M dX3_carry_34 ?_
  refine aM2 M TB (by omega) dX3_carry_35 ?_
  refine x_iload2 M dX3_carry_36 ?_
  refine n_icmp_ne (tgt := 44) M (by first | omega | exact hB _ _) (by first | omega | exact hB _ _) dX3_carry_37 (by decide) (fun q37 => ?_) (fun q37 => absurd q37 hne)
  refine x_iconst (v := nI 0) M dX3_carry_44 (by decide +kernel) ?_
  refine x_callV0 M TB hAA mv_X3_holds kw_475 dX3_carry_45 m_holds0 rfl wl_M rfl rfl ⟨by decide, by decide⟩ ⟨by decide, by decide⟩ (Nat.le_of_ble_eq_true rfl) ?_
  refine n_if_ne (tgt := 53) M (by first | omega | exact hB _ _) dX3_carry_48 (by decide) (fun q48 => ?_) (fun q48 => absurd q48 (by decide))
  refine x_aload0 M dX3_carry_53 ?_
  refine gM5 M TB kw_420 dX3_carry_54 ?_
  refine x_iload1 M dX3_carry_57 ?_
  refine x_iload2 M dX3_carry_58 ?_
  refine sM2 M TB (by omega) dX3_carry_59 ?_
  refine x_aload0 M dX3_carry_60 ?_
  refine gM11 M TB kw_426 dX3_carry_61 ?_
  refine x_iload1 M dX3_carry_64 ?_
  refine x_iconst (v := nI 0) M dX3_carry_65 (by decide +kernel) ?_
  refine sM8 M TB (by omega) dX3_carry_66 ?_
  refine x_aload0 M dX3_carry_67 ?_
  refine gM6 M TB kw_421 dX3_carry_68 ?_
  refine x_iload1 M dX3_carry_71 ?_
  refine aM3 M TB (by omega) dX3_carry_72 ?_
  refine x_aload0 M dX3_carry_73 ?_
  refine gM3 M TB kw_418 dX3_carry_74 ?_
  refine x_iload2 M dX3_carry_77 ?_
  refine aM1 M TB (by omega) dX3_carry_78 ?_
  refine n_icmp_eq (tgt := 87) M (by first | omega | exact hB _ _) (by first | omega | exact hB _ _) dX3_carry_79 (by decide) (fun q79 => ?_) (fun q79 => ?_)
  · refine x_aload0 M dX3_carry_87 ?_
    refine gM11 M TB kw_426 dX3_carry_88 ?_
    refine x_iload1 M dX3_carry_91 ?_
    refine aM8 M TB (by omega) dX3_carry_92 ?_
    refine n_if_le (tgt := 100) M (by first | exact Nat.lt_trans (hZ _ _) (by decide) | exact Nat.lt_trans (hG _ _) (by decide)) dX3_carry_93 (by decide) (fun q93 => ?_) (fun q93 => absurd q93 (by rw [up_s]; omega))
    refine x_iconst (v := nI 0) M dX3_carry_100 (by decide +kernel) ?_
    exact x_zret M hr hlk dX3_carry_101 ⟨by decide, by decide⟩ (Or.inl rfl) (by rw [if_neg (fun h : ¬ B 3 j = B 1 w => h q79)]; rfl) (by rw [car, if_pos (show B 3 j = B 1 w from q79)])
  · refine x_aload0 M dX3_carry_82 ?_
    refine x_iload1 M dX3_carry_83 ?_
    refine x_callV0 M TB hAA mv_X3_gets kw_479 dX3_carry_84 (m_gets (B := (up (up B 2 j w) 8 j 0)) hZ (i := j) (by omega)) rfl wl_M rfl rfl ⟨by decide, by decide⟩ ⟨by decide, by decide⟩ (Nat.le_of_ble_eq_true rfl) ?_
    refine x_aload0 M dX3_carry_87 ?_
    refine gM11 M TB kw_426 dX3_carry_88 ?_
    refine x_iload1 M dX3_carry_91 ?_
    refine aM8 M TB (by omega) dX3_carry_92 ?_
    refine n_if_le (tgt := 100) M (by first | exact Nat.lt_trans (hZ _ _) (by decide) | exact Nat.lt_trans (hG _ _) (by decide)) dX3_carry_93 (by decide) (fun q93 => absurd q93 (by rw [gets_8]; omega)) (fun q93 => ?_)
    refine x_iconst (v := nI 1) M dX3_carry_96 (by decide +kernel) ?_
    refine x_goto (tgt := 101) M dX3_carry_97 (by decide) ?_
    exact x_zret M hr hlk dX3_carry_101 ⟨by decide, by decide⟩ (Or.inr rfl) (by rw [if_pos (show ¬ B 3 j = B 1 w from q79)]; rfl) (by rw [car, if_neg (show ¬ B 3 j = B 1 w from q79)])
set_option maxRecDepth 20000 in
set_option maxHeartbeats 2000000 in
theorem m_carry1 (hO : Ok B) {x x2 : Int32} (h : bad (B 0 0) x) : x_Ret l D kc A yX3_carry cX3_carry 4 (some FieldType.boolean) rm_X3_carry [.ref (ad 6), .int x, .int x2] (wl kc ad X (B) (th) ov (hw)) (some (.int (nI 0))) (wl kc ad X (B) (1) ov (hw)) := by
  refine x_ret_of RX3 (by decide +kernel) rfl [some (.ref (ad 6)), some (.int x), some (.int x2), none] (Nat.le_of_ble_eq_true rfl) rfl rfl ?_
  intro p e s m args below meth c M hr hlk hnm TB hAA
  have hB : ∀ r i, B r i < 2 ^ 31 := fun r i => Nat.lt_trans (hO.bd r i) (by decide)
  refine x_aload0 M dX3_carry_0 ?_
  refine x_iload1 M dX3_carry_1 ?_
  refine x_callV0 M TB hAA mv_X3_isLabel kw_495 dX3_carry_2 (m_isLabel0 hO h) rfl wl_M rfl rfl ⟨by decide, by decide⟩ ⟨by decide, by decide⟩ (Nat.le_of_ble_eq_true rfl) ?_
  refine n_if_eq (tgt := 19) M (by first | omega | exact hB _ _) dX3_carry_5 (by decide) (fun q5 => ?_) (fun q5 => absurd rfl q5)
  refine x_iconst (v := nI 0) M dX3_carry_19 (by decide +kernel) ?_
  refine x_istore3 M dX3_carry_20 ?_
  refine x_aload0 M dX3_carry_21 ?_
  refine x_iload3 M dX3_carry_22 ?_
  refine n_if_ne (tgt := 30) M (by first | omega | exact hB _ _) dX3_carry_23 (by decide) (fun q23 => absurd rfl q23) (fun q23 => ?_)
  refine x_iconst (v := nI 1) M dX3_carry_26 (by decide +kernel) ?_
  refine x_goto (tgt := 45) M dX3_carry_27 (by decide) ?_
  refine x_callV0 M TB hAA mv_X3_holds kw_475 dX3_carry_45 (m_holds1 (t := 1) (by decide) (by decide)) rfl wl_M rfl rfl ⟨by decide, by decide⟩ ⟨by decide, by decide⟩ (Nat.le_of_ble_eq_true rfl) ?_
  refine n_if_ne (tgt := 53) M (by first | omega | exact hB _ _) dX3_carry_48 (by decide) (fun q48 => absurd rfl q48) (fun q48 => ?_)
  refine x_iconst (v := nI 0) M dX3_carry_51 (by decide +kernel) ?_
  exact x_zret M hr hlk dX3_carry_52 ⟨by decide, by decide⟩ (Or.inl rfl) rfl rfl
set_option maxRecDepth 20000 in
set_option maxHeartbeats 2000000 in
theorem m_carry2 (hO : Ok B) {j : Nat} (hj : j < B 0 0) {x2 : Int32} (h : bad 12 x2) : x_Ret l D kc A yX3_carry cX3_carry 4 (some FieldType.boolean) rm_X3_carry [.ref (ad 6), .int (nI j), .int x2] (wl kc ad X (B) (th) ov (hw)) (some (.int (nI 0))) (wl kc ad X (B) (1) ov (hw)) := by
  refine x_ret_of RX3 (by decide +kernel) rfl [some (.ref (ad 6)), some (.int (nI j)), some (.int x2), none] (Nat.le_of_ble_eq_true rfl) rfl rfl ?_
  intro p e s m args below meth c M hr hlk hnm TB hAA
  have hB : ∀ r i, B r i < 2 ^ 31 := fun r i => Nat.lt_trans (hO.bd r i) (by decide)
  refine x_aload0 M dX3_carry_0 ?_
  refine x_iload1 M dX3_carry_1 ?_
  refine x_callV0 M TB hAA mv_X3_isLabel kw_495 dX3_carry_2 (m_isLabel1 hO hj) rfl wl_M rfl rfl ⟨by decide, by decide⟩ ⟨by decide, by decide⟩ (Nat.le_of_ble_eq_true rfl) ?_
  refine n_if_eq (tgt := 19) M (by first | omega | exact hB _ _) dX3_carry_5 (by decide) (fun q5 => absurd q5 (by decide)) (fun q5 => ?_)
  refine x_iload2 M dX3_carry_8 ?_
  refine x_callS0 M TB hAA mv_X3_isWare kw_469 dX3_carry_9 (m_isWare0 h) rfl ⟨by decide, by decide⟩ ⟨by decide, by decide⟩ (Nat.le_of_ble_eq_true rfl) ?_
  refine n_if_eq (tgt := 19) M (by first | omega | exact hB _ _) dX3_carry_12 (by decide) (fun q12 => ?_) (fun q12 => absurd rfl q12)
  refine x_iconst (v := nI 0) M dX3_carry_19 (by decide +kernel) ?_
  refine x_istore3 M dX3_carry_20 ?_
  refine x_aload0 M dX3_carry_21 ?_
  refine x_iload3 M dX3_carry_22 ?_
  refine n_if_ne (tgt := 30) M (by first | omega | exact hB _ _) dX3_carry_23 (by decide) (fun q23 => absurd rfl q23) (fun q23 => ?_)
  refine x_iconst (v := nI 1) M dX3_carry_26 (by decide +kernel) ?_
  refine x_goto (tgt := 45) M dX3_carry_27 (by decide) ?_
  refine x_callV0 M TB hAA mv_X3_holds kw_475 dX3_carry_45 (m_holds1 (t := 1) (by decide) (by decide)) rfl wl_M rfl rfl ⟨by decide, by decide⟩ ⟨by decide, by decide⟩ (Nat.le_of_ble_eq_true rfl) ?_
  refine n_if_ne (tgt := 53) M (by first | omega | exact hB _ _) dX3_carry_48 (by decide) (fun q48 => absurd rfl q48) (fun q48 => ?_)
  refine x_iconst (v := nI 0) M dX3_carry_51 (by decide +kernel) ?_
  exact x_zret M hr hlk dX3_carry_52 ⟨by decide, by decide⟩ (Or.inl rfl) rfl rfl
set_option maxRecDepth 20000 in
set_option maxHeartbeats 2000000 in
theorem m_carry3 (hO : Ok B) {j : Nat} (hj : j < B 0 0) {w : Nat} (hw12 : w < 12) (he : B 2 j = w) : x_Ret l D kc A yX3_carry cX3_carry 4 (some FieldType.boolean) rm_X3_carry [.ref (ad 6), .int (nI j), .int (nI w)] (wl kc ad X (B) (th) ov (hw)) (some (.int (nI 0))) (wl kc ad X (B) (2) ov (hw)) := by
  refine x_ret_of RX3 (by decide +kernel) rfl [some (.ref (ad 6)), some (.int (nI j)), some (.int (nI w)), none] (Nat.le_of_ble_eq_true rfl) rfl rfl ?_
  intro p e s m args below meth c M hr hlk hnm TB hAA
  have hB : ∀ r i, B r i < 2 ^ 31 := fun r i => Nat.lt_trans (hO.bd r i) (by decide)
  have hn := hO.n
  refine x_aload0 M dX3_carry_0 ?_
  refine x_iload1 M dX3_carry_1 ?_
  refine x_callV0 M TB hAA mv_X3_isLabel kw_495 dX3_carry_2 (m_isLabel1 hO hj) rfl wl_M rfl rfl ⟨by decide, by decide⟩ ⟨by decide, by decide⟩ (Nat.le_of_ble_eq_true rfl) ?_
  refine n_if_eq (tgt := 19) M (by first | omega | exact hB _ _) dX3_carry_5 (by decide) (fun q5 => absurd q5 (by decide)) (fun q5 => ?_)
  refine x_iload2 M dX3_carry_8 ?_
  refine x_callS0 M TB hAA mv_X3_isWare kw_469 dX3_carry_9 (m_isWare1 hw12) rfl ⟨by decide, by decide⟩ ⟨by decide, by decide⟩ (Nat.le_of_ble_eq_true rfl) ?_
  refine n_if_eq (tgt := 19) M (by first | omega | exact hB _ _) dX3_carry_12 (by decide) (fun q12 => absurd q12 (by decide)) (fun q12 => ?_)
  refine x_iconst (v := nI 1) M dX3_carry_15 (by decide +kernel) ?_
  refine x_goto (tgt := 20) M dX3_carry_16 (by decide) ?_
  refine x_istore3 M dX3_carry_20 ?_
  refine x_aload0 M dX3_carry_21 ?_
  refine x_iload3 M dX3_carry_22 ?_
  refine n_if_ne (tgt := 30) M (by first | omega | exact hB _ _) dX3_carry_23 (by decide) (fun q23 => ?_) (fun q23 => absurd q23 (by decide))
  refine x_aload0 M dX3_carry_30 ?_
  refine gM5 M TB kw_420 dX3_carry_31 ?_
  refine x_iload1 M dX3_carry_34 ?_
  refine aM2 M TB (by omega) dX3_carry_35 ?_
  refine x_iload2 M dX3_carry_36 ?_
  refine n_icmp_ne (tgt := 44) M (by first | omega | exact hB _ _) (by first | omega | exact hB _ _) dX3_carry_37 (by decide) (fun q37 => absurd he q37) (fun q37 => ?_)
  refine x_iconst (v := nI 2) M dX3_carry_40 (by decide +kernel) ?_
  refine x_goto (tgt := 45) M dX3_carry_41 (by decide) ?_
  refine x_callV0 M TB hAA mv_X3_holds kw_475 dX3_carry_45 (m_holds1 (t := 2) (by decide) (by decide)) rfl wl_M rfl rfl ⟨by decide, by decide⟩ ⟨by decide, by decide⟩ (Nat.le_of_ble_eq_true rfl) ?_
  refine n_if_ne (tgt := 53) M (by first | omega | exact hB _ _) dX3_carry_48 (by decide) (fun q48 => absurd rfl q48) (fun q48 => ?_)
  refine x_iconst (v := nI 0) M dX3_carry_51 (by decide +kernel) ?_
  exact x_zret M hr hlk dX3_carry_52 ⟨by decide, by decide⟩ (Or.inl rfl) rfl rfl
theorem mv_X3_charge : x_MV yX3_charge cX3_charge 3 (some FieldType.int) 1 := ⟨kw_502, kw_21, ⟨by decide +kernel, by decide +kernel⟩, by decide +kernel, kw_500, kw_501⟩
abbrev rm_X3_charge : Room := { frames := 2, cells := 0, slots := 0, locals := 43 }
set_option maxRecDepth 20000 in
set_option maxHeartbeats 2000000 in
theorem m_charge (hO : Ok B) {j : Nat} (hj : j < B 0 0) (hh : B 0 0 ≤ hw) : x_Ret l D kc A yX3_charge cX3_charge 3 (some FieldType.int) rm_X3_charge [.ref (ad 6), .int (nI j)] (wl kc ad X (B) (th) ov (hw)) (some (.int (nI (B 5 j)))) (wl kc ad X (up B 5 j 1000) (0) ov (hw)) := by
  refine x_ret_of RX3 (by decide +kernel) rfl [some (.ref (ad 6)), some (.int (nI j)), none] (Nat.le_of_ble_eq_true rfl) rfl rfl ?_
  intro p e s m args below meth c M hr hlk hnm TB hAA
  have hB : ∀ r i, B r i < 2 ^ 31 := fun r i => Nat.lt_trans (hO.bd r i) (by decide)
  have hn := hO.n
  refine x_aload0 M dX3_charge_0 ?_
  refine x_aload0 M dX3_charge_1 ?_
  refine x_iload1 M dX3_charge_2 ?_
  refine x_callV0 M TB hAA mv_X3_isLabel kw_495 dX3_charge_3 (m_isLabel1 hO hj) rfl wl_M rfl rfl ⟨by decide, by decide⟩ ⟨by decide, by decide⟩ (Nat.le_of_ble_eq_true rfl) ?_
  refine n_if_eq (tgt := 13) M (by first | omega | exact hB _ _) dX3_charge_6 (by decide) (fun q6 => absurd q6 (by decide)) (fun q6 => ?_)
  refine x_iconst (v := nI 0) M dX3_charge_9 (by decide +kernel) ?_
  refine x_goto (tgt := 14) M dX3_charge_10 (by decide) ?_
  refine x_callV0 M TB hAA mv_X3_holds kw_475 dX3_charge_14 m_holds0 rfl wl_M rfl rfl ⟨by decide, by decide⟩ ⟨by decide, by decide⟩ (Nat.le_of_ble_eq_true rfl) ?_
  refine n_if_ne (tgt := 22) M (by first | omega | exact hB _ _) dX3_charge_17 (by decide) (fun q17 => ?_) (fun q17 => absurd q17 (by decide))
  refine x_aload0 M dX3_charge_22 ?_
  refine gM8 M TB kw_423 dX3_charge_23 ?_
  refine x_iload1 M dX3_charge_26 ?_
  refine aM5 M TB (by omega) (by omega) dX3_charge_27 ?_
  refine x_istore2 M dX3_charge_28 ?_
  refine x_aload0 M dX3_charge_29 ?_
  refine gM8 M TB kw_423 dX3_charge_30 ?_
  refine x_iload1 M dX3_charge_33 ?_
  refine x_sipush (v := nI 1000) M dX3_charge_34 (by decide +kernel) ?_
  refine sM5 M TB (by omega) (by omega) dX3_charge_37 ?_
  refine x_iload2 M dX3_charge_38 ?_
  exact x_iret M hr hlk dX3_charge_39 ⟨by decide, by decide⟩ rfl rfl
set_option maxRecDepth 20000 in
set_option maxHeartbeats 2000000 in
theorem m_charge1 (hO : Ok B) {x : Int32} (h : bad (B 0 0) x) : x_Ret l D kc A yX3_charge cX3_charge 3 (some FieldType.int) rm_X3_charge [.ref (ad 6), .int x] (wl kc ad X (B) (th) ov (hw)) (some (.int (nI 0))) (wl kc ad X (B) (1) ov (hw)) := by
  refine x_ret_of RX3 (by decide +kernel) rfl [some (.ref (ad 6)), some (.int x), none] (Nat.le_of_ble_eq_true rfl) rfl rfl ?_
  intro p e s m args below meth c M hr hlk hnm TB hAA
  have hB : ∀ r i, B r i < 2 ^ 31 := fun r i => Nat.lt_trans (hO.bd r i) (by decide)
  refine x_aload0 M dX3_charge_0 ?_
  refine x_aload0 M dX3_charge_1 ?_
  refine x_iload1 M dX3_charge_2 ?_
  refine x_callV0 M TB hAA mv_X3_isLabel kw_495 dX3_charge_3 (m_isLabel0 hO h) rfl wl_M rfl rfl ⟨by decide, by decide⟩ ⟨by decide, by decide⟩ (Nat.le_of_ble_eq_true rfl) ?_
  refine n_if_eq (tgt := 13) M (by first | omega | exact hB _ _) dX3_charge_6 (by decide) (fun q6 => ?_) (fun q6 => absurd rfl q6)
  refine x_iconst (v := nI 1) M dX3_charge_13 (by decide +kernel) ?_
  refine x_callV0 M TB hAA mv_X3_holds kw_475 dX3_charge_14 (m_holds1 (t := 1) (by decide) (by decide)) rfl wl_M rfl rfl ⟨by decide, by decide⟩ ⟨by decide, by decide⟩ (Nat.le_of_ble_eq_true rfl) ?_
  refine n_if_ne (tgt := 22) M (by first | omega | exact hB _ _) dX3_charge_17 (by decide) (fun q17 => absurd rfl q17) (fun q17 => ?_)
  refine x_iconst (v := nI 0) M dX3_charge_20 (by decide +kernel) ?_
  exact x_iret M hr hlk dX3_charge_21 ⟨by decide, by decide⟩ rfl rfl
theorem mv_X3_loseSendings : x_MV yX3_loseSendings cX3_loseSendings 4 (some FieldType.int) 2 := ⟨kw_506, kw_21, ⟨by decide +kernel, by decide +kernel⟩, by decide +kernel, kw_504, kw_505⟩
abbrev rm_X3_loseSendings : Room := { frames := 2, cells := 0, slots := 0, locals := 43 }
set_option maxRecDepth 20000 in
set_option maxHeartbeats 2000000 in
theorem m_loseSendings (hO : Ok B) {j : Nat} (hj : j < B 0 0) {v : Nat} (hv : v ≤ 20) : x_Ret l D kc A yX3_loseSendings cX3_loseSendings 4 (some FieldType.int) rm_X3_loseSendings [.ref (ad 6), .int (nI j), .int (nI v)] (wl kc ad X (B) (th) ov (hw)) (some (.int (nI (B 6 j)))) (wl kc ad X (up B 6 j v) (0) ov (hw)) := by
  refine x_ret_of RX3 (by decide +kernel) rfl [some (.ref (ad 6)), some (.int (nI j)), some (.int (nI v)), none] (Nat.le_of_ble_eq_true rfl) rfl rfl ?_
  intro p e s m args below meth c M hr hlk hnm TB hAA
  have hB : ∀ r i, B r i < 2 ^ 31 := fun r i => Nat.lt_trans (hO.bd r i) (by decide)
  have hn := hO.n
  refine x_aload0 M dX3_loseSendings_0 ?_
  refine x_aload0 M dX3_loseSendings_1 ?_
  refine x_iload1 M dX3_loseSendings_2 ?_
  refine x_callV0 M TB hAA mv_X3_isLabel kw_495 dX3_loseSendings_3 (m_isLabel1 hO hj) rfl wl_M rfl rfl ⟨by decide, by decide⟩ ⟨by decide, by decide⟩ (Nat.le_of_ble_eq_true rfl) ?_
  refine n_if_ne (tgt := 13) M (by first | omega | exact hB _ _) dX3_loseSendings_6 (by decide) (fun q6 => ?_) (fun q6 => absurd q6 (by decide))
  refine x_iload2 M dX3_loseSendings_13 ?_
  refine x_iconst (v := nI 0) M dX3_loseSendings_14 (by decide +kernel) ?_
  refine x_bipush (v := nI 20) M dX3_loseSendings_15 (by decide +kernel) ?_
  refine x_callS0 M TB hAA mv_X3_isIn kw_472 dX3_loseSendings_17 m_isIn rfl ⟨by decide, by decide⟩ ⟨by decide, by decide⟩ (Nat.le_of_ble_eq_true rfl) ?_
  refine b_if_eq (tgt := 27) M dX3_loseSendings_20 (by decide) (fun q20 => absurd ⟨nI_nlt (Nat.zero_le _) (by omega), nI_nlt hv (by decide)⟩ q20) (fun q20 => ?_)
  refine x_iconst (v := nI 0) M dX3_loseSendings_23 (by decide +kernel) ?_
  refine x_goto (tgt := 28) M dX3_loseSendings_24 (by decide) ?_
  refine x_callV0 M TB hAA mv_X3_holds kw_475 dX3_loseSendings_28 m_holds0 rfl wl_M rfl rfl ⟨by decide, by decide⟩ ⟨by decide, by decide⟩ (Nat.le_of_ble_eq_true rfl) ?_
  refine n_if_ne (tgt := 36) M (by first | omega | exact hB _ _) dX3_loseSendings_31 (by decide) (fun q31 => ?_) (fun q31 => absurd q31 (by decide))
  refine x_aload0 M dX3_loseSendings_36 ?_
  refine gM9 M TB kw_424 dX3_loseSendings_37 ?_
  refine x_iload1 M dX3_loseSendings_40 ?_
  refine aM6 M TB (by omega) dX3_loseSendings_41 ?_
  refine x_istore3 M dX3_loseSendings_42 ?_
  refine x_aload0 M dX3_loseSendings_43 ?_
  refine gM9 M TB kw_424 dX3_loseSendings_44 ?_
  refine x_iload1 M dX3_loseSendings_47 ?_
  refine x_iload2 M dX3_loseSendings_48 ?_
  refine sM6 M TB (by omega) dX3_loseSendings_49 ?_
  refine x_iload3 M dX3_loseSendings_50 ?_
  exact x_iret M hr hlk dX3_loseSendings_51 ⟨by decide, by decide⟩ rfl rfl
set_option maxRecDepth 20000 in
set_option maxHeartbeats 2000000 in
theorem m_loseSendings1 (hO : Ok B) {x x2 : Int32} (h : bad (B 0 0) x) : x_Ret l D kc A yX3_loseSendings cX3_loseSendings 4 (some FieldType.int) rm_X3_loseSendings [.ref (ad 6), .int x, .int x2] (wl kc ad X (B) (th) ov (hw)) (some (.int (nI 0))) (wl kc ad X (B) (1) ov (hw)) := by
  refine x_ret_of RX3 (by decide +kernel) rfl [some (.ref (ad 6)), some (.int x), some (.int x2), none] (Nat.le_of_ble_eq_true rfl) rfl rfl ?_
  intro p e s m args below meth c M hr hlk hnm TB hAA
  have hB : ∀ r i, B r i < 2 ^ 31 := fun r i => Nat.lt_trans (hO.bd r i) (by decide)
  refine x_aload0 M dX3_loseSendings_0 ?_
  refine x_aload0 M dX3_loseSendings_1 ?_
  refine x_iload1 M dX3_loseSendings_2 ?_
  refine x_callV0 M TB hAA mv_X3_isLabel kw_495 dX3_loseSendings_3 (m_isLabel0 hO h) rfl wl_M rfl rfl ⟨by decide, by decide⟩ ⟨by decide, by decide⟩ (Nat.le_of_ble_eq_true rfl) ?_
  refine n_if_ne (tgt := 13) M (by first | omega | exact hB _ _) dX3_loseSendings_6 (by decide) (fun q6 => absurd rfl q6) (fun q6 => ?_)
  refine x_iconst (v := nI 1) M dX3_loseSendings_9 (by decide +kernel) ?_
  refine x_goto (tgt := 28) M dX3_loseSendings_10 (by decide) ?_
  refine x_callV0 M TB hAA mv_X3_holds kw_475 dX3_loseSendings_28 (m_holds1 (t := 1) (by decide) (by decide)) rfl wl_M rfl rfl ⟨by decide, by decide⟩ ⟨by decide, by decide⟩ (Nat.le_of_ble_eq_true rfl) ?_
  refine n_if_ne (tgt := 36) M (by first | omega | exact hB _ _) dX3_loseSendings_31 (by decide) (fun q31 => absurd rfl q31) (fun q31 => ?_)
  refine x_iconst (v := nI 0) M dX3_loseSendings_34 (by decide +kernel) ?_
  exact x_iret M hr hlk dX3_loseSendings_35 ⟨by decide, by decide⟩ rfl rfl
set_option maxRecDepth 20000 in
set_option maxHeartbeats 2000000 in
theorem m_loseSendings2 (hO : Ok B) {j : Nat} (hj : j < B 0 0) {x2 : Int32} (h : ¬ (¬ x2 < nI 0 ∧ x2 ≤ nI 20)) : x_Ret l D kc A yX3_loseSendings cX3_loseSendings 4 (some FieldType.int) rm_X3_loseSendings [.ref (ad 6), .int (nI j), .int x2] (wl kc ad X (B) (th) ov (hw)) (some (.int (nI 0))) (wl kc ad X (B) (2) ov (hw)) := by
  refine x_ret_of RX3 (by decide +kernel) rfl [some (.ref (ad 6)), some (.int (nI j)), some (.int x2), none] (Nat.le_of_ble_eq_true rfl) rfl rfl ?_
  intro p e s m args below meth c M hr hlk hnm TB hAA
  have hB : ∀ r i, B r i < 2 ^ 31 := fun r i => Nat.lt_trans (hO.bd r i) (by decide)
  refine x_aload0 M dX3_loseSendings_0 ?_
  refine x_aload0 M dX3_loseSendings_1 ?_
  refine x_iload1 M dX3_loseSendings_2 ?_
  refine x_callV0 M TB hAA mv_X3_isLabel kw_495 dX3_loseSendings_3 (m_isLabel1 hO hj) rfl wl_M rfl rfl ⟨by decide, by decide⟩ ⟨by decide, by decide⟩ (Nat.le_of_ble_eq_true rfl) ?_
  refine n_if_ne (tgt := 13) M (by first | omega | exact hB _ _) dX3_loseSendings_6 (by decide) (fun q6 => ?_) (fun q6 => absurd q6 (by decide))
  refine x_iload2 M dX3_loseSendings_13 ?_
  refine x_iconst (v := nI 0) M dX3_loseSendings_14 (by decide +kernel) ?_
  refine x_bipush (v := nI 20) M dX3_loseSendings_15 (by decide +kernel) ?_
  refine x_callS0 M TB hAA mv_X3_isIn kw_472 dX3_loseSendings_17 m_isIn rfl ⟨by decide, by decide⟩ ⟨by decide, by decide⟩ (Nat.le_of_ble_eq_true rfl) ?_
  refine b_if_eq (tgt := 27) M dX3_loseSendings_20 (by decide) (fun q20 => ?_) (fun q20 => (h ⟨q20.1, Int32.not_lt.mp q20.2⟩).elim)
  refine x_iconst (v := nI 2) M dX3_loseSendings_27 (by decide +kernel) ?_
  refine x_callV0 M TB hAA mv_X3_holds kw_475 dX3_loseSendings_28 (m_holds1 (t := 2) (by decide) (by decide)) rfl wl_M rfl rfl ⟨by decide, by decide⟩ ⟨by decide, by decide⟩ (Nat.le_of_ble_eq_true rfl) ?_
  refine n_if_ne (tgt := 36) M (by first | omega | exact hB _ _) dX3_loseSendings_31 (by decide) (fun q31 => absurd rfl q31) (fun q31 => ?_)
  refine x_iconst (v := nI 0) M dX3_loseSendings_34 (by decide +kernel) ?_
  exact x_iret M hr hlk dX3_loseSendings_35 ⟨by decide, by decide⟩ rfl rfl
theorem mv_X3_loseAnswers : x_MV yX3_loseAnswers cX3_loseAnswers 4 (some FieldType.int) 2 := ⟨kw_510, kw_21, ⟨by decide +kernel, by decide +kernel⟩, by decide +kernel, kw_508, kw_509⟩
abbrev rm_X3_loseAnswers : Room := { frames := 2, cells := 0, slots := 0, locals := 43 }
set_option maxRecDepth 20000 in
set_option maxHeartbeats 2000000 in
theorem m_loseAnswers (hO : Ok B) {j : Nat} (hj : j < B 0 0) {v : Nat} (hv : v ≤ 20) : x_Ret l D kc A yX3_loseAnswers cX3_loseAnswers 4 (some FieldType.int) rm_X3_loseAnswers [.ref (ad 6), .int (nI j), .int (nI v)] (wl kc ad X (B) (th) ov (hw)) (some (.int (nI (B 7 j)))) (wl kc ad X (up B 7 j v) (0) ov (hw)) := by
  refine x_ret_of RX3 (by decide +kernel) rfl [some (.ref (ad 6)), some (.int (nI j)), some (.int (nI v)), none] (Nat.le_of_ble_eq_true rfl) rfl rfl ?_
  intro p e s m args below meth c M hr hlk hnm TB hAA
  have hB : ∀ r i, B r i < 2 ^ 31 := fun r i => Nat.lt_trans (hO.bd r i) (by decide)
  have hn := hO.n
  refine x_aload0 M dX3_loseAnswers_0 ?_
  refine x_aload0 M dX3_loseAnswers_1 ?_
  refine x_iload1 M dX3_loseAnswers_2 ?_
  refine x_callV0 M TB hAA mv_X3_isLabel kw_495 dX3_loseAnswers_3 (m_isLabel1 hO hj) rfl wl_M rfl rfl ⟨by decide, by decide⟩ ⟨by decide, by decide⟩ (Nat.le_of_ble_eq_true rfl) ?_
  refine n_if_ne (tgt := 13) M (by first | omega | exact hB _ _) dX3_loseAnswers_6 (by decide) (fun q6 => ?_) (fun q6 => absurd q6 (by decide))
  refine x_iload2 M dX3_loseAnswers_13 ?_
  refine x_iconst (v := nI 0) M dX3_loseAnswers_14 (by decide +kernel) ?_
  refine x_bipush (v := nI 20) M dX3_loseAnswers_15 (by decide +kernel) ?_
  refine x_callS0 M TB hAA mv_X3_isIn kw_472 dX3_loseAnswers_17 m_isIn rfl ⟨by decide, by decide⟩ ⟨by decide, by decide⟩ (Nat.le_of_ble_eq_true rfl) ?_
  refine b_if_eq (tgt := 27) M dX3_loseAnswers_20 (by decide) (fun q20 => absurd ⟨nI_nlt (Nat.zero_le _) (by omega), nI_nlt hv (by decide)⟩ q20) (fun q20 => ?_)
  refine x_iconst (v := nI 0) M dX3_loseAnswers_23 (by decide +kernel) ?_
  refine x_goto (tgt := 28) M dX3_loseAnswers_24 (by decide) ?_
  refine x_callV0 M TB hAA mv_X3_holds kw_475 dX3_loseAnswers_28 m_holds0 rfl wl_M rfl rfl ⟨by decide, by decide⟩ ⟨by decide, by decide⟩ (Nat.le_of_ble_eq_true rfl) ?_
  refine n_if_ne (tgt := 36) M (by first | omega | exact hB _ _) dX3_loseAnswers_31 (by decide) (fun q31 => ?_) (fun q31 => absurd q31 (by decide))
  refine x_aload0 M dX3_loseAnswers_36 ?_
  refine gM10 M TB kw_425 dX3_loseAnswers_37 ?_
  refine x_iload1 M dX3_loseAnswers_40 ?_
  refine aM7 M TB (by omega) dX3_loseAnswers_41 ?_
  refine x_istore3 M dX3_loseAnswers_42 ?_
  refine x_aload0 M dX3_loseAnswers_43 ?_
  refine gM10 M TB kw_425 dX3_loseAnswers_44 ?_
  refine x_iload1 M dX3_loseAnswers_47 ?_
  refine x_iload2 M dX3_loseAnswers_48 ?_
  refine sM7 M TB (by omega) dX3_loseAnswers_49 ?_
  refine x_iload3 M dX3_loseAnswers_50 ?_
  exact x_iret M hr hlk dX3_loseAnswers_51 ⟨by decide, by decide⟩ rfl rfl
set_option maxRecDepth 20000 in
set_option maxHeartbeats 2000000 in
theorem m_loseAnswers1 (hO : Ok B) {x x2 : Int32} (h : bad (B 0 0) x) : x_Ret l D kc A yX3_loseAnswers cX3_loseAnswers 4 (some FieldType.int) rm_X3_loseAnswers [.ref (ad 6), .int x, .int x2] (wl kc ad X (B) (th) ov (hw)) (some (.int (nI 0))) (wl kc ad X (B) (1) ov (hw)) := by
  refine x_ret_of RX3 (by decide +kernel) rfl [some (.ref (ad 6)), some (.int x), some (.int x2), none] (Nat.le_of_ble_eq_true rfl) rfl rfl ?_
  intro p e s m args below meth c M hr hlk hnm TB hAA
  have hB : ∀ r i, B r i < 2 ^ 31 := fun r i => Nat.lt_trans (hO.bd r i) (by decide)
  refine x_aload0 M dX3_loseAnswers_0 ?_
  refine x_aload0 M dX3_loseAnswers_1 ?_
  refine x_iload1 M dX3_loseAnswers_2 ?_
  refine x_callV0 M TB hAA mv_X3_isLabel kw_495 dX3_loseAnswers_3 (m_isLabel0 hO h) rfl wl_M rfl rfl ⟨by decide, by decide⟩ ⟨by decide, by decide⟩ (Nat.le_of_ble_eq_true rfl) ?_
  refine n_if_ne (tgt := 13) M (by first | omega | exact hB _ _) dX3_loseAnswers_6 (by decide) (fun q6 => absurd rfl q6) (fun q6 => ?_)
  refine x_iconst (v := nI 1) M dX3_loseAnswers_9 (by decide +kernel) ?_
  refine x_goto (tgt := 28) M dX3_loseAnswers_10 (by decide) ?_
  refine x_callV0 M TB hAA mv_X3_holds kw_475 dX3_loseAnswers_28 (m_holds1 (t := 1) (by decide) (by decide)) rfl wl_M rfl rfl ⟨by decide, by decide⟩ ⟨by decide, by decide⟩ (Nat.le_of_ble_eq_true rfl) ?_
  refine n_if_ne (tgt := 36) M (by first | omega | exact hB _ _) dX3_loseAnswers_31 (by decide) (fun q31 => absurd rfl q31) (fun q31 => ?_)
  refine x_iconst (v := nI 0) M dX3_loseAnswers_34 (by decide +kernel) ?_
  exact x_iret M hr hlk dX3_loseAnswers_35 ⟨by decide, by decide⟩ rfl rfl
set_option maxRecDepth 20000 in
set_option maxHeartbeats 2000000 in
theorem m_loseAnswers2 (hO : Ok B) {j : Nat} (hj : j < B 0 0) {x2 : Int32} (h : ¬ (¬ x2 < nI 0 ∧ x2 ≤ nI 20)) : x_Ret l D kc A yX3_loseAnswers cX3_loseAnswers 4 (some FieldType.int) rm_X3_loseAnswers [.ref (ad 6), .int (nI j), .int x2] (wl kc ad X (B) (th) ov (hw)) (some (.int (nI 0))) (wl kc ad X (B) (2) ov (hw)) := by
  refine x_ret_of RX3 (by decide +kernel) rfl [some (.ref (ad 6)), some (.int (nI j)), some (.int x2), none] (Nat.le_of_ble_eq_true rfl) rfl rfl ?_
  intro p e s m args below meth c M hr hlk hnm TB hAA
  have hB : ∀ r i, B r i < 2 ^ 31 := fun r i => Nat.lt_trans (hO.bd r i) (by decide)
  refine x_aload0 M dX3_loseAnswers_0 ?_
  refine x_aload0 M dX3_loseAnswers_1 ?_
  refine x_iload1 M dX3_loseAnswers_2 ?_
  refine x_callV0 M TB hAA mv_X3_isLabel kw_495 dX3_loseAnswers_3 (m_isLabel1 hO hj) rfl wl_M rfl rfl ⟨by decide, by decide⟩ ⟨by decide, by decide⟩ (Nat.le_of_ble_eq_true rfl) ?_
  refine n_if_ne (tgt := 13) M (by first | omega | exact hB _ _) dX3_loseAnswers_6 (by decide) (fun q6 => ?_) (fun q6 => absurd q6 (by decide))
  refine x_iload2 M dX3_loseAnswers_13 ?_
  refine x_iconst (v := nI 0) M dX3_loseAnswers_14 (by decide +kernel) ?_
  refine x_bipush (v := nI 20) M dX3_loseAnswers_15 (by decide +kernel) ?_
  refine x_callS0 M TB hAA mv_X3_isIn kw_472 dX3_loseAnswers_17 m_isIn rfl ⟨by decide, by decide⟩ ⟨by decide, by decide⟩ (Nat.le_of_ble_eq_true rfl) ?_
  refine b_if_eq (tgt := 27) M dX3_loseAnswers_20 (by decide) (fun q20 => ?_) (fun q20 => (h ⟨q20.1, Int32.not_lt.mp q20.2⟩).elim)
  refine x_iconst (v := nI 2) M dX3_loseAnswers_27 (by decide +kernel) ?_
  refine x_callV0 M TB hAA mv_X3_holds kw_475 dX3_loseAnswers_28 (m_holds1 (t := 2) (by decide) (by decide)) rfl wl_M rfl rfl ⟨by decide, by decide⟩ ⟨by decide, by decide⟩ (Nat.le_of_ble_eq_true rfl) ?_
  refine n_if_ne (tgt := 36) M (by first | omega | exact hB _ _) dX3_loseAnswers_31 (by decide) (fun q31 => absurd rfl q31) (fun q31 => ?_)
  refine x_iconst (v := nI 0) M dX3_loseAnswers_34 (by decide +kernel) ?_
  exact x_iret M hr hlk dX3_loseAnswers_35 ⟨by decide, by decide⟩ rfl rfl
theorem mv_X3_time : x_MV yX3_time cX3_time 1 (some FieldType.int) 0 := ⟨kw_544, kw_21, ⟨by decide +kernel, by decide +kernel⟩, by decide +kernel, kw_542, kw_543⟩
abbrev rm_X3_time : Room := { frames := 0, cells := 0, slots := 0, locals := 0 }
set_option maxRecDepth 20000 in
set_option maxHeartbeats 2000000 in
theorem m_time  : x_Ret l D kc A yX3_time cX3_time 1 (some FieldType.int) rm_X3_time [.ref (ad 6)] (wl kc ad X (B) (th) ov (hw)) (some (.int (nI (B 0 1)))) (wl kc ad X (B) (0) ov (hw)) := by
  refine x_ret_of RX3 (by decide +kernel) rfl [some (.ref (ad 6))] (Nat.le_of_ble_eq_true rfl) rfl rfl ?_
  intro p e s m args below meth c M hr hlk hnm TB hAA
  refine x_aload0 M dX3_time_0 ?_
  refine x_iconst (v := nI 0) M dX3_time_1 (by decide +kernel) ?_
  refine pM0 M TB kw_415 dX3_time_2 ?_
  refine x_aload0 M dX3_time_5 ?_
  refine gM1 M TB kw_416 dX3_time_6 ?_
  exact x_iret M hr hlk dX3_time_9 ⟨by decide, by decide⟩ rfl rfl
theorem mv_X3_order : x_MV yX3_order cX3_order 2 (some FieldType.int) 1 := ⟨kw_548, kw_21, ⟨by decide +kernel, by decide +kernel⟩, by decide +kernel, kw_546, kw_547⟩
abbrev rm_X3_order : Room := { frames := 2, cells := 0, slots := 0, locals := 43 }
set_option maxRecDepth 20000 in
set_option maxHeartbeats 2000000 in
theorem m_order (hO : Ok B) {j : Nat} (hj : j < B 0 0) : x_Ret l D kc A yX3_order cX3_order 2 (some FieldType.int) rm_X3_order [.ref (ad 6), .int (nI j)] (wl kc ad X (B) (th) ov (hw)) (some (.int (eo (B 8 j)))) (wl kc ad X (B) (0) ov (hw)) := by
  refine x_ret_of RX3 (by decide +kernel) rfl [some (.ref (ad 6)), some (.int (nI j))] (Nat.le_of_ble_eq_true rfl) rfl rfl ?_
  intro p e s m args below meth c M hr hlk hnm TB hAA
  have hB : ∀ r i, B r i < 2 ^ 31 := fun r i => Nat.lt_trans (hO.bd r i) (by decide)
  have hn := hO.n
  refine x_aload0 M dX3_order_0 ?_
  refine x_aload0 M dX3_order_1 ?_
  refine x_iload1 M dX3_order_2 ?_
  refine x_callV0 M TB hAA mv_X3_isLabel kw_495 dX3_order_3 (m_isLabel1 hO hj) rfl wl_M rfl rfl ⟨by decide, by decide⟩ ⟨by decide, by decide⟩ (Nat.le_of_ble_eq_true rfl) ?_
  refine n_if_eq (tgt := 13) M (by first | omega | exact hB _ _) dX3_order_6 (by decide) (fun q6 => absurd q6 (by decide)) (fun q6 => ?_)
  refine x_iconst (v := nI 0) M dX3_order_9 (by decide +kernel) ?_
  refine x_goto (tgt := 14) M dX3_order_10 (by decide) ?_
  refine x_callV0 M TB hAA mv_X3_holds kw_475 dX3_order_14 m_holds0 rfl wl_M rfl rfl ⟨by decide, by decide⟩ ⟨by decide, by decide⟩ (Nat.le_of_ble_eq_true rfl) ?_
  refine n_if_ne (tgt := 22) M (by first | omega | exact hB _ _) dX3_order_17 (by decide) (fun q17 => ?_) (fun q17 => absurd q17 (by decide))
  refine x_aload0 M dX3_order_22 ?_
  refine gM11 M TB kw_426 dX3_order_23 ?_
  refine x_iload1 M dX3_order_26 ?_
  refine aM8 M TB (by omega) dX3_order_27 ?_
  refine n_if_ne (tgt := 35) M (by first | omega | exact hB _ _) dX3_order_28 (by decide) (fun q28 => ?_) (fun q28 => ?_)
  · refine x_aload0 M dX3_order_35 ?_
    refine gM11 M TB kw_426 dX3_order_36 ?_
    refine x_iload1 M dX3_order_39 ?_
    refine aM8 M TB (by omega) dX3_order_40 ?_
    exact x_iret M hr hlk dX3_order_41 ⟨by decide, by decide⟩ (by rw [eo, if_neg q28]) rfl
  · refine x_iconst (v := (-1)) M dX3_order_31 (by decide +kernel) ?_
    refine x_goto (tgt := 41) M dX3_order_32 (by decide) ?_
    exact x_iret M hr hlk dX3_order_41 ⟨by decide, by decide⟩ (by rw [eo, if_pos q28]) rfl
set_option maxRecDepth 20000 in
set_option maxHeartbeats 2000000 in
theorem m_order1 (hO : Ok B) {x : Int32} (h : bad (B 0 0) x) : x_Ret l D kc A yX3_order cX3_order 2 (some FieldType.int) rm_X3_order [.ref (ad 6), .int x] (wl kc ad X (B) (th) ov (hw)) (some (.int (nI 0))) (wl kc ad X (B) (1) ov (hw)) := by
  refine x_ret_of RX3 (by decide +kernel) rfl [some (.ref (ad 6)), some (.int x)] (Nat.le_of_ble_eq_true rfl) rfl rfl ?_
  intro p e s m args below meth c M hr hlk hnm TB hAA
  have hB : ∀ r i, B r i < 2 ^ 31 := fun r i => Nat.lt_trans (hO.bd r i) (by decide)
  refine x_aload0 M dX3_order_0 ?_
  refine x_aload0 M dX3_order_1 ?_
  refine x_iload1 M dX3_order_2 ?_
  refine x_callV0 M TB hAA mv_X3_isLabel kw_495 dX3_order_3 (m_isLabel0 hO h) rfl wl_M rfl rfl ⟨by decide, by decide⟩ ⟨by decide, by decide⟩ (Nat.le_of_ble_eq_true rfl) ?_
  refine n_if_eq (tgt := 13) M (by first | omega | exact hB _ _) dX3_order_6 (by decide) (fun q6 => ?_) (fun q6 => absurd rfl q6)
  refine x_iconst (v := nI 1) M dX3_order_13 (by decide +kernel) ?_
  refine x_callV0 M TB hAA mv_X3_holds kw_475 dX3_order_14 (m_holds1 (t := 1) (by decide) (by decide)) rfl wl_M rfl rfl ⟨by decide, by decide⟩ ⟨by decide, by decide⟩ (Nat.le_of_ble_eq_true rfl) ?_
  refine n_if_ne (tgt := 22) M (by first | omega | exact hB _ _) dX3_order_17 (by decide) (fun q17 => absurd rfl q17) (fun q17 => ?_)
  refine x_iconst (v := nI 0) M dX3_order_20 (by decide +kernel) ?_
  exact x_iret M hr hlk dX3_order_21 ⟨by decide, by decide⟩ rfl rfl
theorem mv_X3_shown : x_MV yX3_shown cX3_shown 2 (some FieldType.int) 1 := ⟨kw_560, kw_21, ⟨by decide +kernel, by decide +kernel⟩, by decide +kernel, kw_558, kw_559⟩
abbrev rm_X3_shown : Room := { frames := 2, cells := 0, slots := 0, locals := 43 }
set_option maxRecDepth 20000 in
set_option maxHeartbeats 2000000 in
theorem m_shown (hO : Ok B) {j : Nat} (hj : j < B 0 0) : x_Ret l D kc A yX3_shown cX3_shown 2 (some FieldType.int) rm_X3_shown [.ref (ad 6), .int (nI j)] (wl kc ad X (B) (th) ov (hw)) (some (.int (nI (B 3 j)))) (wl kc ad X (B) (0) ov (hw)) := by
  refine x_ret_of RX3 (by decide +kernel) rfl [some (.ref (ad 6)), some (.int (nI j))] (Nat.le_of_ble_eq_true rfl) rfl rfl ?_
  intro p e s m args below meth c M hr hlk hnm TB hAA
  have hB : ∀ r i, B r i < 2 ^ 31 := fun r i => Nat.lt_trans (hO.bd r i) (by decide)
  have hn := hO.n
  refine x_aload0 M dX3_shown_0 ?_
  refine x_aload0 M dX3_shown_1 ?_
  refine x_iload1 M dX3_shown_2 ?_
  refine x_callV0 M TB hAA mv_X3_isLabel kw_495 dX3_shown_3 (m_isLabel1 hO hj) rfl wl_M rfl rfl ⟨by decide, by decide⟩ ⟨by decide, by decide⟩ (Nat.le_of_ble_eq_true rfl) ?_
  refine n_if_eq (tgt := 13) M (by first | omega | exact hB _ _) dX3_shown_6 (by decide) (fun q6 => absurd q6 (by decide)) (fun q6 => ?_)
  refine x_iconst (v := nI 0) M dX3_shown_9 (by decide +kernel) ?_
  refine x_goto (tgt := 14) M dX3_shown_10 (by decide) ?_
  refine x_callV0 M TB hAA mv_X3_holds kw_475 dX3_shown_14 m_holds0 rfl wl_M rfl rfl ⟨by decide, by decide⟩ ⟨by decide, by decide⟩ (Nat.le_of_ble_eq_true rfl) ?_
  refine n_if_eq (tgt := 29) M (by first | omega | exact hB _ _) dX3_shown_17 (by decide) (fun q17 => absurd q17 (by decide)) (fun q17 => ?_)
  refine x_aload0 M dX3_shown_20 ?_
  refine gM6 M TB kw_421 dX3_shown_21 ?_
  refine x_iload1 M dX3_shown_24 ?_
  refine aM3 M TB (by omega) dX3_shown_25 ?_
  refine x_goto (tgt := 30) M dX3_shown_26 (by decide) ?_
  exact x_iret M hr hlk dX3_shown_30 ⟨by decide, by decide⟩ rfl rfl
set_option maxRecDepth 20000 in
set_option maxHeartbeats 2000000 in
theorem m_shown1 (hO : Ok B) {x : Int32} (h : bad (B 0 0) x) : x_Ret l D kc A yX3_shown cX3_shown 2 (some FieldType.int) rm_X3_shown [.ref (ad 6), .int x] (wl kc ad X (B) (th) ov (hw)) (some (.int (nI 0))) (wl kc ad X (B) (1) ov (hw)) := by
  refine x_ret_of RX3 (by decide +kernel) rfl [some (.ref (ad 6)), some (.int x)] (Nat.le_of_ble_eq_true rfl) rfl rfl ?_
  intro p e s m args below meth c M hr hlk hnm TB hAA
  have hB : ∀ r i, B r i < 2 ^ 31 := fun r i => Nat.lt_trans (hO.bd r i) (by decide)
  refine x_aload0 M dX3_shown_0 ?_
  refine x_aload0 M dX3_shown_1 ?_
  refine x_iload1 M dX3_shown_2 ?_
  refine x_callV0 M TB hAA mv_X3_isLabel kw_495 dX3_shown_3 (m_isLabel0 hO h) rfl wl_M rfl rfl ⟨by decide, by decide⟩ ⟨by decide, by decide⟩ (Nat.le_of_ble_eq_true rfl) ?_
  refine n_if_eq (tgt := 13) M (by first | omega | exact hB _ _) dX3_shown_6 (by decide) (fun q6 => ?_) (fun q6 => absurd rfl q6)
  refine x_iconst (v := nI 1) M dX3_shown_13 (by decide +kernel) ?_
  refine x_callV0 M TB hAA mv_X3_holds kw_475 dX3_shown_14 (m_holds1 (t := 1) (by decide) (by decide)) rfl wl_M rfl rfl ⟨by decide, by decide⟩ ⟨by decide, by decide⟩ (Nat.le_of_ble_eq_true rfl) ?_
  refine n_if_eq (tgt := 29) M (by first | omega | exact hB _ _) dX3_shown_17 (by decide) (fun q17 => ?_) (fun q17 => absurd rfl q17)
  refine x_iconst (v := nI 0) M dX3_shown_29 (by decide +kernel) ?_
  exact x_iret M hr hlk dX3_shown_30 ⟨by decide, by decide⟩ rfl rfl
theorem mv_X3_ghosts : x_MV yX3_ghosts cX3_ghosts 2 (some FieldType.int) 1 := ⟨kw_564, kw_21, ⟨by decide +kernel, by decide +kernel⟩, by decide +kernel, kw_562, kw_563⟩
abbrev rm_X3_ghosts : Room := { frames := 2, cells := 0, slots := 0, locals := 43 }
set_option maxRecDepth 20000 in
set_option maxHeartbeats 2000000 in
theorem m_ghosts (hO : Ok B) {j : Nat} (hj : j < B 0 0) : x_Ret l D kc A yX3_ghosts cX3_ghosts 2 (some FieldType.int) rm_X3_ghosts [.ref (ad 6), .int (nI j)] (wl kc ad X (B) (th) ov (hw)) (some (.int (nI (B 4 j)))) (wl kc ad X (B) (0) ov (hw)) := by
  refine x_ret_of RX3 (by decide +kernel) rfl [some (.ref (ad 6)), some (.int (nI j))] (Nat.le_of_ble_eq_true rfl) rfl rfl ?_
  intro p e s m args below meth c M hr hlk hnm TB hAA
  have hB : ∀ r i, B r i < 2 ^ 31 := fun r i => Nat.lt_trans (hO.bd r i) (by decide)
  have hn := hO.n
  refine x_aload0 M dX3_ghosts_0 ?_
  refine x_aload0 M dX3_ghosts_1 ?_
  refine x_iload1 M dX3_ghosts_2 ?_
  refine x_callV0 M TB hAA mv_X3_isLabel kw_495 dX3_ghosts_3 (m_isLabel1 hO hj) rfl wl_M rfl rfl ⟨by decide, by decide⟩ ⟨by decide, by decide⟩ (Nat.le_of_ble_eq_true rfl) ?_
  refine n_if_eq (tgt := 13) M (by first | omega | exact hB _ _) dX3_ghosts_6 (by decide) (fun q6 => absurd q6 (by decide)) (fun q6 => ?_)
  refine x_iconst (v := nI 0) M dX3_ghosts_9 (by decide +kernel) ?_
  refine x_goto (tgt := 14) M dX3_ghosts_10 (by decide) ?_
  refine x_callV0 M TB hAA mv_X3_holds kw_475 dX3_ghosts_14 m_holds0 rfl wl_M rfl rfl ⟨by decide, by decide⟩ ⟨by decide, by decide⟩ (Nat.le_of_ble_eq_true rfl) ?_
  refine n_if_eq (tgt := 29) M (by first | omega | exact hB _ _) dX3_ghosts_17 (by decide) (fun q17 => absurd q17 (by decide)) (fun q17 => ?_)
  refine x_aload0 M dX3_ghosts_20 ?_
  refine gM7 M TB kw_422 dX3_ghosts_21 ?_
  refine x_iload1 M dX3_ghosts_24 ?_
  refine aM4 M TB (by omega) dX3_ghosts_25 ?_
  refine x_goto (tgt := 30) M dX3_ghosts_26 (by decide) ?_
  exact x_iret M hr hlk dX3_ghosts_30 ⟨by decide, by decide⟩ rfl rfl
set_option maxRecDepth 20000 in
set_option maxHeartbeats 2000000 in
theorem m_ghosts1 (hO : Ok B) {x : Int32} (h : bad (B 0 0) x) : x_Ret l D kc A yX3_ghosts cX3_ghosts 2 (some FieldType.int) rm_X3_ghosts [.ref (ad 6), .int x] (wl kc ad X (B) (th) ov (hw)) (some (.int (nI 0))) (wl kc ad X (B) (1) ov (hw)) := by
  refine x_ret_of RX3 (by decide +kernel) rfl [some (.ref (ad 6)), some (.int x)] (Nat.le_of_ble_eq_true rfl) rfl rfl ?_
  intro p e s m args below meth c M hr hlk hnm TB hAA
  have hB : ∀ r i, B r i < 2 ^ 31 := fun r i => Nat.lt_trans (hO.bd r i) (by decide)
  refine x_aload0 M dX3_ghosts_0 ?_
  refine x_aload0 M dX3_ghosts_1 ?_
  refine x_iload1 M dX3_ghosts_2 ?_
  refine x_callV0 M TB hAA mv_X3_isLabel kw_495 dX3_ghosts_3 (m_isLabel0 hO h) rfl wl_M rfl rfl ⟨by decide, by decide⟩ ⟨by decide, by decide⟩ (Nat.le_of_ble_eq_true rfl) ?_
  refine n_if_eq (tgt := 13) M (by first | omega | exact hB _ _) dX3_ghosts_6 (by decide) (fun q6 => ?_) (fun q6 => absurd rfl q6)
  refine x_iconst (v := nI 1) M dX3_ghosts_13 (by decide +kernel) ?_
  refine x_callV0 M TB hAA mv_X3_holds kw_475 dX3_ghosts_14 (m_holds1 (t := 1) (by decide) (by decide)) rfl wl_M rfl rfl ⟨by decide, by decide⟩ ⟨by decide, by decide⟩ (Nat.le_of_ble_eq_true rfl) ?_
  refine n_if_eq (tgt := 29) M (by first | omega | exact hB _ _) dX3_ghosts_17 (by decide) (fun q17 => ?_) (fun q17 => absurd rfl q17)
  refine x_iconst (v := nI 0) M dX3_ghosts_29 (by decide +kernel) ?_
  exact x_iret M hr hlk dX3_ghosts_30 ⟨by decide, by decide⟩ rfl rfl
theorem mv_X3_battery : x_MV yX3_battery cX3_battery 2 (some FieldType.int) 1 := ⟨kw_568, kw_21, ⟨by decide +kernel, by decide +kernel⟩, by decide +kernel, kw_566, kw_567⟩
abbrev rm_X3_battery : Room := { frames := 2, cells := 0, slots := 0, locals := 43 }
set_option maxRecDepth 20000 in
set_option maxHeartbeats 2000000 in
theorem m_battery (hO : Ok B) {j : Nat} (hj : j < B 0 0) (hh : B 0 0 ≤ hw) : x_Ret l D kc A yX3_battery cX3_battery 2 (some FieldType.int) rm_X3_battery [.ref (ad 6), .int (nI j)] (wl kc ad X (B) (th) ov (hw)) (some (.int (nI (B 5 j)))) (wl kc ad X (B) (0) ov (hw)) := by
  refine x_ret_of RX3 (by decide +kernel) rfl [some (.ref (ad 6)), some (.int (nI j))] (Nat.le_of_ble_eq_true rfl) rfl rfl ?_
  intro p e s m args below meth c M hr hlk hnm TB hAA
  have hB : ∀ r i, B r i < 2 ^ 31 := fun r i => Nat.lt_trans (hO.bd r i) (by decide)
  have hn := hO.n
  refine x_aload0 M dX3_battery_0 ?_
  refine x_aload0 M dX3_battery_1 ?_
  refine x_iload1 M dX3_battery_2 ?_
  refine x_callV0 M TB hAA mv_X3_isLabel kw_495 dX3_battery_3 (m_isLabel1 hO hj) rfl wl_M rfl rfl ⟨by decide, by decide⟩ ⟨by decide, by decide⟩ (Nat.le_of_ble_eq_true rfl) ?_
  refine n_if_eq (tgt := 13) M (by first | omega | exact hB _ _) dX3_battery_6 (by decide) (fun q6 => absurd q6 (by decide)) (fun q6 => ?_)
  refine x_iconst (v := nI 0) M dX3_battery_9 (by decide +kernel) ?_
  refine x_goto (tgt := 14) M dX3_battery_10 (by decide) ?_
  refine x_callV0 M TB hAA mv_X3_holds kw_475 dX3_battery_14 m_holds0 rfl wl_M rfl rfl ⟨by decide, by decide⟩ ⟨by decide, by decide⟩ (Nat.le_of_ble_eq_true rfl) ?_
  refine n_if_eq (tgt := 29) M (by first | omega | exact hB _ _) dX3_battery_17 (by decide) (fun q17 => absurd q17 (by decide)) (fun q17 => ?_)
  refine x_aload0 M dX3_battery_20 ?_
  refine gM8 M TB kw_423 dX3_battery_21 ?_
  refine x_iload1 M dX3_battery_24 ?_
  refine aM5 M TB (by omega) (by omega) dX3_battery_25 ?_
  refine x_goto (tgt := 30) M dX3_battery_26 (by decide) ?_
  exact x_iret M hr hlk dX3_battery_30 ⟨by decide, by decide⟩ rfl rfl
set_option maxRecDepth 20000 in
set_option maxHeartbeats 2000000 in
theorem m_battery1 (hO : Ok B) {x : Int32} (h : bad (B 0 0) x) : x_Ret l D kc A yX3_battery cX3_battery 2 (some FieldType.int) rm_X3_battery [.ref (ad 6), .int x] (wl kc ad X (B) (th) ov (hw)) (some (.int (nI 0))) (wl kc ad X (B) (1) ov (hw)) := by
  refine x_ret_of RX3 (by decide +kernel) rfl [some (.ref (ad 6)), some (.int x)] (Nat.le_of_ble_eq_true rfl) rfl rfl ?_
  intro p e s m args below meth c M hr hlk hnm TB hAA
  have hB : ∀ r i, B r i < 2 ^ 31 := fun r i => Nat.lt_trans (hO.bd r i) (by decide)
  refine x_aload0 M dX3_battery_0 ?_
  refine x_aload0 M dX3_battery_1 ?_
  refine x_iload1 M dX3_battery_2 ?_
  refine x_callV0 M TB hAA mv_X3_isLabel kw_495 dX3_battery_3 (m_isLabel0 hO h) rfl wl_M rfl rfl ⟨by decide, by decide⟩ ⟨by decide, by decide⟩ (Nat.le_of_ble_eq_true rfl) ?_
  refine n_if_eq (tgt := 13) M (by first | omega | exact hB _ _) dX3_battery_6 (by decide) (fun q6 => ?_) (fun q6 => absurd rfl q6)
  refine x_iconst (v := nI 1) M dX3_battery_13 (by decide +kernel) ?_
  refine x_callV0 M TB hAA mv_X3_holds kw_475 dX3_battery_14 (m_holds1 (t := 1) (by decide) (by decide)) rfl wl_M rfl rfl ⟨by decide, by decide⟩ ⟨by decide, by decide⟩ (Nat.le_of_ble_eq_true rfl) ?_
  refine n_if_eq (tgt := 29) M (by first | omega | exact hB _ _) dX3_battery_17 (by decide) (fun q17 => ?_) (fun q17 => absurd rfl q17)
  refine x_iconst (v := nI 0) M dX3_battery_29 (by decide +kernel) ?_
  exact x_iret M hr hlk dX3_battery_30 ⟨by decide, by decide⟩ rfl rfl
theorem mv_X3_orders : x_MV yX3_orders cX3_orders 3 (some FieldType.int) 0 := ⟨kw_552, kw_21, ⟨by decide +kernel, by decide +kernel⟩, by decide +kernel, kw_550, kw_551⟩
abbrev rm_X3_orders : Room := { frames := 0, cells := 0, slots := 0, locals := 0 }
set_option maxRecDepth 20000 in
set_option maxHeartbeats 2000000 in
theorem m_orders (hO : Ok B) : x_Ret l D kc A yX3_orders cX3_orders 3 (some FieldType.int) rm_X3_orders [.ref (ad 6)] (wl kc ad X (B) (th) ov (hw)) (some (.int (nI (cnt B (B 0 0))))) (wl kc ad X (B) (0) ov (hw)) := by
  refine x_ret_of RX3 (by decide +kernel) rfl [some (.ref (ad 6)), none, none] (Nat.le_of_ble_eq_true rfl) rfl rfl ?_
  intro p e s m args below meth c M hr hlk hnm TB hAA
  have hB : ∀ r i, B r i < 2 ^ 31 := fun r i => Nat.lt_trans (hO.bd r i) (by decide)
  have loop : ∀ (d k : Nat), k + d = B 0 0 → x_X p l e rm_X3_orders s m args below meth c D A 3 0 0 (MQ below (x_Qc D A (some (.int (nI (cnt B (B 0 0))))) (wl kc ad X (B) (0) ov (hw))) args s rm_X3_orders.cells rm_X3_orders.slots A) (wl kc ad X (B) (0) ov (hw)) 9 [some (.ref (ad 6)), some (.int (nI (cnt B k))), some (.int (nI k))] [] := by
    intro d
    induction d with
    | zero =>
      intro k hk
      have hn := hO.n
      refine x_iload2 M dX3_orders_9 ?_
      refine x_aload0 M dX3_orders_10 ?_
      refine gM4 M TB kw_419 dX3_orders_11 ?_
      refine n_icmp_ge (tgt := 40) M (by first | omega | exact hB _ _) (by first | omega | exact hB _ _) dX3_orders_14 (by decide) (fun q14 => ?_) (fun q14 => absurd q14 (by omega))
      refine x_iload1 M dX3_orders_40 ?_
      exact x_iret M hr hlk dX3_orders_41 ⟨by decide, by decide⟩ (by rw [show k = B 0 0 by omega]) rfl
    | succ d ih =>
      intro k hk
      have hn := hO.n
      refine x_iload2 M dX3_orders_9 ?_
      refine x_aload0 M dX3_orders_10 ?_
      refine gM4 M TB kw_419 dX3_orders_11 ?_
      refine n_icmp_ge (tgt := 40) M (by first | omega | exact hB _ _) (by first | omega | exact hB _ _) dX3_orders_14 (by decide) (fun q14 => absurd q14 (by omega)) (fun q14 => ?_)
      refine x_iload1 M dX3_orders_17 ?_
      refine x_aload0 M dX3_orders_18 ?_
      refine gM11 M TB kw_426 dX3_orders_19 ?_
      refine x_iload2 M dX3_orders_22 ?_
      refine aM8 M TB (by omega) dX3_orders_23 ?_
      refine n_if_le (tgt := 31) M (by first | omega | exact hB _ _) dX3_orders_24 (by decide) (fun q24 => ?_) (fun q24 => ?_)
      · refine x_iconst (v := nI 0) M dX3_orders_31 (by decide +kernel) ?_
        refine n_add M dX3_orders_32 ?_
        refine x_istore1 M dX3_orders_33 ?_
        refine n_inc2 M dX3_orders_34 ?_
        refine x_goto (tgt := 9) M dX3_orders_37 (by decide) ?_
        have h9 := ih (k + 1) (by omega)
        rw [cnt_z q24] at h9
        exact h9
      · refine x_iconst (v := nI 1) M dX3_orders_27 (by decide +kernel) ?_
        refine x_goto (tgt := 32) M dX3_orders_28 (by decide) ?_
        refine n_add M dX3_orders_32 ?_
        refine x_istore1 M dX3_orders_33 ?_
        refine n_inc2 M dX3_orders_34 ?_
        refine x_goto (tgt := 9) M dX3_orders_37 (by decide) ?_
        have h9 := ih (k + 1) (by omega)
        rw [cnt_o (by omega)] at h9
        exact h9
  refine x_aload0 M dX3_orders_0 ?_
  refine x_iconst (v := nI 0) M dX3_orders_1 (by decide +kernel) ?_
  refine pM0 M TB kw_415 dX3_orders_2 ?_
  refine x_iconst (v := nI 0) M dX3_orders_5 (by decide +kernel) ?_
  refine x_istore1 M dX3_orders_6 ?_
  refine x_iconst (v := nI 0) M dX3_orders_7 (by decide +kernel) ?_
  refine x_istore2 M dX3_orders_8 ?_
  exact loop (B 0 0) 0 (by omega)
theorem mv_X3_nextToSend : x_MV yX3_nextToSend cX3_nextToSend 1 (some FieldType.int) 0 := ⟨kw_556, kw_21, ⟨by decide +kernel, by decide +kernel⟩, by decide +kernel, kw_554, kw_555⟩
abbrev rm_X3_nextToSend : Room := { frames := 1, cells := 0, slots := 0, locals := 24 }
set_option maxRecDepth 20000 in
set_option maxHeartbeats 2000000 in
theorem m_nextToSend (hO : Ok B) : x_Ret l D kc A yX3_nextToSend cX3_nextToSend 1 (some FieldType.int) rm_X3_nextToSend [.ref (ad 6)] (wl kc ad X (B) (th) ov (hw)) (some (.int (oI (nxt B (B 0 0))))) (wl kc ad X (B) (0) ov (hw)) := by
  refine x_ret_of RX3 (by decide +kernel) rfl [some (.ref (ad 6))] (Nat.le_of_ble_eq_true rfl) rfl rfl ?_
  intro p e s m args below meth c M hr hlk hnm TB hAA
  refine x_aload0 M dX3_nextToSend_0 ?_
  refine x_iconst (v := nI 0) M dX3_nextToSend_1 (by decide +kernel) ?_
  refine pM0 M TB kw_415 dX3_nextToSend_2 ?_
  refine x_aload0 M dX3_nextToSend_5 ?_
  refine x_callV0 M TB hAA mv_X3_longest kw_519 dX3_nextToSend_6 (m_longest hO) rfl wl_M rfl rfl ⟨by decide, by decide⟩ ⟨by decide, by decide⟩ (Nat.le_of_ble_eq_true rfl) ?_
  exact x_iret M hr hlk dX3_nextToSend_9 ⟨by decide, by decide⟩ rfl rfl
theorem mv_X3_lies : x_MV yX3_lies cX3_lies 3 (some FieldType.int) 0 := ⟨kw_572, kw_21, ⟨by decide +kernel, by decide +kernel⟩, by decide +kernel, kw_570, kw_571⟩
abbrev rm_X3_lies : Room := { frames := 0, cells := 0, slots := 0, locals := 0 }
set_option maxRecDepth 20000 in
set_option maxHeartbeats 2000000 in
theorem m_lies (hO : Ok B) : x_Ret l D kc A yX3_lies cX3_lies 3 (some FieldType.int) rm_X3_lies [.ref (ad 6)] (wl kc ad X (B) (th) ov (hw)) (some (.int (lie B (B 0 0)))) (wl kc ad X (B) (0) ov (hw)) := by
  refine x_ret_of RX3 (by decide +kernel) rfl [some (.ref (ad 6)), none, none] (Nat.le_of_ble_eq_true rfl) rfl rfl ?_
  intro p e s m args below meth c M hr hlk hnm TB hAA
  have hB : ∀ r i, B r i < 2 ^ 31 := fun r i => Nat.lt_trans (hO.bd r i) (by decide)
  have loop : ∀ (d k : Nat), k + d = B 0 0 → x_X p l e rm_X3_lies s m args below meth c D A 3 0 0 (MQ below (x_Qc D A (some (.int (lie B (B 0 0)))) (wl kc ad X (B) (0) ov (hw))) args s rm_X3_lies.cells rm_X3_lies.slots A) (wl kc ad X (B) (0) ov (hw)) 9 [some (.ref (ad 6)), some (.int (lie B k)), some (.int (nI k))] [] := by
    intro d
    induction d with
    | zero =>
      intro k hk
      have hn := hO.n
      have hwk := hO.w k
      refine x_iload2 M dX3_lies_9 ?_
      refine x_aload0 M dX3_lies_10 ?_
      refine gM4 M TB kw_419 dX3_lies_11 ?_
      refine n_icmp_ge (tgt := 53) M (by first | omega | exact hB _ _) (by first | omega | exact hB _ _) dX3_lies_14 (by decide) (fun q14 => ?_) (fun q14 => absurd q14 (by omega))
      refine x_iload1 M dX3_lies_53 ?_
      exact x_iret M hr hlk dX3_lies_54 ⟨by decide, by decide⟩ (by rw [show k = B 0 0 by omega]) rfl
    | succ d ih =>
      intro k hk
      have hn := hO.n
      have hwk := hO.w k
      refine x_iload2 M dX3_lies_9 ?_
      refine x_aload0 M dX3_lies_10 ?_
      refine gM4 M TB kw_419 dX3_lies_11 ?_
      refine n_icmp_ge (tgt := 53) M (by first | omega | exact hB _ _) (by first | omega | exact hB _ _) dX3_lies_14 (by decide) (fun q14 => absurd q14 (by omega)) (fun q14 => ?_)
      refine x_iload1 M dX3_lies_17 ?_
      refine x_aload0 M dX3_lies_18 ?_
      refine gM6 M TB kw_421 dX3_lies_19 ?_
      refine x_iload2 M dX3_lies_22 ?_
      refine aM3 M TB (by omega) dX3_lies_23 ?_
      refine x_aload0 M dX3_lies_24 ?_
      refine gM3 M TB kw_418 dX3_lies_25 ?_
      refine x_aload0 M dX3_lies_28 ?_
      refine gM5 M TB kw_420 dX3_lies_29 ?_
      refine x_iload2 M dX3_lies_32 ?_
      refine aM2 M TB (by omega) dX3_lies_33 ?_
      refine aM1 M TB (by omega) dX3_lies_34 ?_
      refine n_icmp_ge (tgt := 44) M (by first | omega | exact hB _ _) (by first | omega | exact hB _ _) dX3_lies_35 (by decide) (fun q35 => ?_) (fun q35 => ?_)
      · refine x_iconst (v := nI 0) M dX3_lies_44 (by decide +kernel) ?_
        refine x_ior (v := lie B k) M dX3_lies_45 (by rw [nI_0]; exact Int32.or_zero) ?_
        refine x_istore1 M dX3_lies_46 ?_
        refine n_inc2 M dX3_lies_47 ?_
        refine x_goto (tgt := 9) M dX3_lies_50 (by decide) ?_
        have h9 := ih (k + 1) (by omega)
        rw [lie_n (by omega)] at h9
        exact h9
      · refine x_iconst (v := nI 1) M dX3_lies_38 (by decide +kernel) ?_
        refine x_iload2 M dX3_lies_39 ?_
        refine x_ishl M dX3_lies_40 rfl ?_
        refine x_goto (tgt := 45) M dX3_lies_41 (by decide) ?_
        refine x_ior M dX3_lies_45 rfl ?_
        refine x_istore1 M dX3_lies_46 ?_
        refine n_inc2 M dX3_lies_47 ?_
        refine x_goto (tgt := 9) M dX3_lies_50 (by decide) ?_
        have h9 := ih (k + 1) (by omega)
        rw [lie_y q35] at h9
        exact h9
  refine x_aload0 M dX3_lies_0 ?_
  refine x_iconst (v := nI 0) M dX3_lies_1 (by decide +kernel) ?_
  refine pM0 M TB kw_415 dX3_lies_2 ?_
  refine x_iconst (v := nI 0) M dX3_lies_5 (by decide +kernel) ?_
  refine x_istore1 M dX3_lies_6 ?_
  refine x_iconst (v := nI 0) M dX3_lies_7 (by decide +kernel) ?_
  refine x_istore2 M dX3_lies_8 ?_
  exact loop (B 0 0) 0 (by omega)
theorem mv_X3_asked : x_MV yX3_asked cX3_asked 4 (some FieldType.int) 1 := ⟨kw_576, kw_21, ⟨by decide +kernel, by decide +kernel⟩, by decide +kernel, kw_574, kw_575⟩
abbrev rm_X3_asked : Room := { frames := 2, cells := 0, slots := 0, locals := 42 }
set_option maxRecDepth 20000 in
set_option maxHeartbeats 2000000 in
theorem m_asked (hO : Ok B) {j : Nat} (hj : j < 12) : x_Ret l D kc A yX3_asked cX3_asked 4 (some FieldType.int) rm_X3_asked [.ref (ad 6), .int (nI j)] (wl kc ad X (B) (th) ov (hw)) (some (.int (nI (min (B 1 j) (min (lnow B j (B 0 0)) (lhr B j 60)))))) (wl kc ad X (B) (0) ov (hw)) := by
  refine x_ret_of RX3 (by decide +kernel) rfl [some (.ref (ad 6)), some (.int (nI j)), none, none] (Nat.le_of_ble_eq_true rfl) rfl rfl ?_
  intro p e s m args below meth c M hr hlk hnm TB hAA
  have hB : ∀ r i, B r i < 2 ^ 31 := fun r i => Nat.lt_trans (hO.bd r i) (by decide)
  have hpj := hO.p j
  have hln := lnow_le B j (B 0 0)
  have loop : ∀ (d k : Nat), k + d = 60 → x_X p l e rm_X3_asked s m args below meth c D A 4 0 0 (MQ below (x_Qc D A (some (.int (nI (min (B 1 j) (min (lnow B j (B 0 0)) (lhr B j 60)))))) (wl kc ad X (B) (0) ov (hw))) args s rm_X3_asked.cells rm_X3_asked.slots A) (wl kc ad X (B) (0) ov (hw)) 38 [some (.ref (ad 6)), some (.int (nI j)), some (.int (em (min (min (B 1 j) (lnow B j (B 0 0))) (lhr B j k)))), some (.int (nI k))] [] := by
    intro d
    induction d with
    | zero =>
      intro k hk
      refine x_iload3 M dX3_asked_38 ?_
      refine x_bipush (v := nI 60) M dX3_asked_39 (by decide +kernel) ?_
      refine n_icmp_ge (tgt := 66) M (by first | omega | exact hB _ _) (by first | omega | exact hB _ _) dX3_asked_41 (by decide) (fun q41 => ?_) (fun q41 => absurd q41 (by omega))
      refine x_iload2 M dX3_asked_66 ?_
      exact x_iret M hr hlk dX3_asked_67 ⟨by decide, by decide⟩ (by rw [show k = 60 by omega, em_n (by omega), Nat.min_assoc]) rfl
    | succ d ih =>
      intro k hk
      refine x_iload3 M dX3_asked_38 ?_
      refine x_bipush (v := nI 60) M dX3_asked_39 (by decide +kernel) ?_
      refine n_icmp_ge (tgt := 66) M (by first | omega | exact hB _ _) (by first | omega | exact hB _ _) dX3_asked_41 (by decide) (fun q41 => absurd q41 (by omega)) (fun q41 => ?_)
      refine x_iload2 M dX3_asked_44 ?_
      refine x_aload0 M dX3_asked_45 ?_
      refine gM13 M TB kw_428 dX3_asked_46 ?_
      refine x_bipush (v := nI 60) M dX3_asked_49 (by decide +kernel) ?_
      refine x_iload1 M dX3_asked_51 ?_
      refine n_mul M dX3_asked_52 ?_
      refine x_iload3 M dX3_asked_53 ?_
      refine n_add M dX3_asked_54 ?_
      refine aM10 M TB (by omega) dX3_asked_55 ?_
      refine x_callS0 M TB hAA mv_X3_lesser kw_538 dX3_asked_56 (m_lesser (a := (min (min (B 1 j) (lnow B j (B 0 0))) (lhr B j k))) (b := B 10 (60 * j + k)) (by omega) (hO.l _)) rfl ⟨by decide, by decide⟩ ⟨by decide, by decide⟩ (Nat.le_of_ble_eq_true rfl) ?_
      refine x_istore2 M dX3_asked_59 ?_
      refine n_inc3 M dX3_asked_60 ?_
      refine x_goto (tgt := 38) M dX3_asked_63 (by decide) ?_
      have h9 := ih (k + 1) (by omega)
      rw [show min (min (B 1 j) (lnow B j (B 0 0))) (lhr B j (k + 1)) = min (min (min (B 1 j) (lnow B j (B 0 0))) (lhr B j k)) (B 10 (60 * j + k)) from (Nat.min_assoc _ _ _).symm] at h9
      exact h9
  refine x_aload0 M dX3_asked_0 ?_
  refine x_iload1 M dX3_asked_1 ?_
  refine x_callS0 M TB hAA mv_X3_isWare kw_469 dX3_asked_2 (m_isWare1 hj) rfl ⟨by decide, by decide⟩ ⟨by decide, by decide⟩ (Nat.le_of_ble_eq_true rfl) ?_
  refine n_if_eq (tgt := 12) M (by first | omega | exact hB _ _) dX3_asked_5 (by decide) (fun q5 => absurd q5 (by decide)) (fun q5 => ?_)
  refine x_iconst (v := nI 0) M dX3_asked_8 (by decide +kernel) ?_
  refine x_goto (tgt := 13) M dX3_asked_9 (by decide) ?_
  refine x_callV0 M TB hAA mv_X3_holds kw_475 dX3_asked_13 m_holds0 rfl wl_M rfl rfl ⟨by decide, by decide⟩ ⟨by decide, by decide⟩ (Nat.le_of_ble_eq_true rfl) ?_
  refine n_if_ne (tgt := 21) M (by first | omega | exact hB _ _) dX3_asked_16 (by decide) (fun q16 => ?_) (fun q16 => absurd q16 (by decide))
  refine x_aload0 M dX3_asked_21 ?_
  refine gM3 M TB kw_418 dX3_asked_22 ?_
  refine x_iload1 M dX3_asked_25 ?_
  refine aM1 M TB (by omega) dX3_asked_26 ?_
  refine x_aload0 M dX3_asked_27 ?_
  refine x_iload1 M dX3_asked_28 ?_
  refine x_callV0 M TB hAA mv_X3_leastNow kw_534 dX3_asked_29 (m_leastNow hO hj) rfl wl_M rfl rfl ⟨by decide, by decide⟩ ⟨by decide, by decide⟩ (Nat.le_of_ble_eq_true rfl) ?_
  refine x_callS0 M TB hAA mv_X3_lesser kw_538 dX3_asked_32 (m_lesserN hpj hln) rfl ⟨by decide, by decide⟩ ⟨by decide, by decide⟩ (Nat.le_of_ble_eq_true rfl) ?_
  refine x_istore2 M dX3_asked_35 ?_
  refine x_iconst (v := nI 0) M dX3_asked_36 (by decide +kernel) ?_
  refine x_istore3 M dX3_asked_37 ?_
  have h9 := loop 60 0 (by omega)
  rw [show (min (min (B 1 j) (lnow B j (B 0 0))) (lhr B j 0)) = (min (B 1 j) (lnow B j (B 0 0))) from Nat.min_eq_left (by show _ ≤ 10000; omega)] at h9
  exact h9
set_option maxRecDepth 20000 in
set_option maxHeartbeats 2000000 in
theorem m_asked1 {x : Int32} (h : bad 12 x) : x_Ret l D kc A yX3_asked cX3_asked 4 (some FieldType.int) rm_X3_asked [.ref (ad 6), .int x] (wl kc ad X (B) (th) ov (hw)) (some (.int (nI 0))) (wl kc ad X (B) (1) ov (hw)) := by
  refine x_ret_of RX3 (by decide +kernel) rfl [some (.ref (ad 6)), some (.int x), none, none] (Nat.le_of_ble_eq_true rfl) rfl rfl ?_
  intro p e s m args below meth c M hr hlk hnm TB hAA
  refine x_aload0 M dX3_asked_0 ?_
  refine x_iload1 M dX3_asked_1 ?_
  refine x_callS0 M TB hAA mv_X3_isWare kw_469 dX3_asked_2 (m_isWare0 h) rfl ⟨by decide, by decide⟩ ⟨by decide, by decide⟩ (Nat.le_of_ble_eq_true rfl) ?_
  refine n_if_eq (tgt := 12) M (by first | omega | exact hB _ _) dX3_asked_5 (by decide) (fun q5 => ?_) (fun q5 => absurd rfl q5)
  refine x_iconst (v := nI 1) M dX3_asked_12 (by decide +kernel) ?_
  refine x_callV0 M TB hAA mv_X3_holds kw_475 dX3_asked_13 (m_holds1 (t := 1) (by decide) (by decide)) rfl wl_M rfl rfl ⟨by decide, by decide⟩ ⟨by decide, by decide⟩ (Nat.le_of_ble_eq_true rfl) ?_
  refine n_if_ne (tgt := 21) M (by first | omega | exact hB _ _) dX3_asked_16 (by decide) (fun q16 => absurd rfl q16) (fun q16 => ?_)
  refine x_iconst (v := nI 0) M dX3_asked_19 (by decide +kernel) ?_
  exact x_iret M hr hlk dX3_asked_20 ⟨by decide, by decide⟩ rfl rfl
theorem mv_X3_leastEver : x_MV yX3_leastEver cX3_leastEver 2 (some FieldType.int) 1 := ⟨kw_580, kw_21, ⟨by decide +kernel, by decide +kernel⟩, by decide +kernel, kw_578, kw_579⟩
abbrev rm_X3_leastEver : Room := { frames := 2, cells := 0, slots := 0, locals := 42 }
set_option maxRecDepth 20000 in
set_option maxHeartbeats 2000000 in
theorem m_leastEver (hO : Ok B) {j : Nat} (hj : j < 12) : x_Ret l D kc A yX3_leastEver cX3_leastEver 2 (some FieldType.int) rm_X3_leastEver [.ref (ad 6), .int (nI j)] (wl kc ad X (B) (th) ov (hw)) (some (.int (em (min (lnow B j (B 0 0)) (B 11 j))))) (wl kc ad X (B) (0) ov (hw)) := by
  refine x_ret_of RX3 (by decide +kernel) rfl [some (.ref (ad 6)), some (.int (nI j))] (Nat.le_of_ble_eq_true rfl) rfl rfl ?_
  intro p e s m args below meth c M hr hlk hnm TB hAA
  have hB : ∀ r i, B r i < 2 ^ 31 := fun r i => Nat.lt_trans (hO.bd r i) (by decide)
  have hln := lnow_le B j (B 0 0)
  refine x_aload0 M dX3_leastEver_0 ?_
  refine x_iload1 M dX3_leastEver_1 ?_
  refine x_callS0 M TB hAA mv_X3_isWare kw_469 dX3_leastEver_2 (m_isWare1 hj) rfl ⟨by decide, by decide⟩ ⟨by decide, by decide⟩ (Nat.le_of_ble_eq_true rfl) ?_
  refine n_if_eq (tgt := 12) M (by first | omega | exact hB _ _) dX3_leastEver_5 (by decide) (fun q5 => absurd q5 (by decide)) (fun q5 => ?_)
  refine x_iconst (v := nI 0) M dX3_leastEver_8 (by decide +kernel) ?_
  refine x_goto (tgt := 13) M dX3_leastEver_9 (by decide) ?_
  refine x_callV0 M TB hAA mv_X3_holds kw_475 dX3_leastEver_13 m_holds0 rfl wl_M rfl rfl ⟨by decide, by decide⟩ ⟨by decide, by decide⟩ (Nat.le_of_ble_eq_true rfl) ?_
  refine n_if_eq (tgt := 36) M (by first | omega | exact hB _ _) dX3_leastEver_16 (by decide) (fun q16 => absurd q16 (by decide)) (fun q16 => ?_)
  refine x_aload0 M dX3_leastEver_19 ?_
  refine gM14 M TB kw_429 dX3_leastEver_20 ?_
  refine x_iload1 M dX3_leastEver_23 ?_
  refine aM11 M TB (by omega) dX3_leastEver_24 ?_
  refine x_aload0 M dX3_leastEver_25 ?_
  refine x_iload1 M dX3_leastEver_26 ?_
  refine x_callV0 M TB hAA mv_X3_leastNow kw_534 dX3_leastEver_27 (m_leastNow hO hj) rfl wl_M rfl rfl ⟨by decide, by decide⟩ ⟨by decide, by decide⟩ (Nat.le_of_ble_eq_true rfl) ?_
  refine x_callS0 M TB hAA mv_X3_lesser kw_538 dX3_leastEver_30 (m_lesser (hO.e j) hln) rfl ⟨by decide, by decide⟩ ⟨by decide, by decide⟩ (Nat.le_of_ble_eq_true rfl) ?_
  refine x_goto (tgt := 37) M dX3_leastEver_33 (by decide) ?_
  exact x_iret M hr hlk dX3_leastEver_37 ⟨by decide, by decide⟩ (by rw [Nat.min_comm]) rfl
set_option maxRecDepth 20000 in
set_option maxHeartbeats 2000000 in
theorem m_leastEver1 {x : Int32} (h : bad 12 x) : x_Ret l D kc A yX3_leastEver cX3_leastEver 2 (some FieldType.int) rm_X3_leastEver [.ref (ad 6), .int x] (wl kc ad X (B) (th) ov (hw)) (some (.int (nI 0))) (wl kc ad X (B) (1) ov (hw)) := by
  refine x_ret_of RX3 (by decide +kernel) rfl [some (.ref (ad 6)), some (.int x)] (Nat.le_of_ble_eq_true rfl) rfl rfl ?_
  intro p e s m args below meth c M hr hlk hnm TB hAA
  refine x_aload0 M dX3_leastEver_0 ?_
  refine x_iload1 M dX3_leastEver_1 ?_
  refine x_callS0 M TB hAA mv_X3_isWare kw_469 dX3_leastEver_2 (m_isWare0 h) rfl ⟨by decide, by decide⟩ ⟨by decide, by decide⟩ (Nat.le_of_ble_eq_true rfl) ?_
  refine n_if_eq (tgt := 12) M (by first | omega | exact hB _ _) dX3_leastEver_5 (by decide) (fun q5 => ?_) (fun q5 => absurd rfl q5)
  refine x_iconst (v := nI 1) M dX3_leastEver_12 (by decide +kernel) ?_
  refine x_callV0 M TB hAA mv_X3_holds kw_475 dX3_leastEver_13 (m_holds1 (t := 1) (by decide) (by decide)) rfl wl_M rfl rfl ⟨by decide, by decide⟩ ⟨by decide, by decide⟩ (Nat.le_of_ble_eq_true rfl) ?_
  refine n_if_eq (tgt := 36) M (by first | omega | exact hB _ _) dX3_leastEver_16 (by decide) (fun q16 => ?_) (fun q16 => absurd rfl q16)
  refine x_iconst (v := nI 0) M dX3_leastEver_36 (by decide +kernel) ?_
  exact x_iret M hr hlk dX3_leastEver_37 ⟨by decide, by decide⟩ rfl rfl
theorem mv_X3_setPrice : x_MV yX3_setPrice cX3_setPrice 5 (some FieldType.int) 2 := ⟨kw_468, kw_21, ⟨by decide +kernel, by decide +kernel⟩, by decide +kernel, kw_466, kw_467⟩
abbrev rm_X3_setPrice : Room := { frames := 2, cells := 0, slots := 0, locals := 42 }
set_option maxRecDepth 20000 in
set_option maxHeartbeats 2000000 in
theorem m_setPrice0 (hO : Ok B) {j v : Nat} (hj : j < 12) (hv : v ≤ 9999) (he : B 1 j = v) : x_Ret l D kc A yX3_setPrice cX3_setPrice 5 (some FieldType.int) rm_X3_setPrice [.ref (ad 6), .int (nI j), .int (nI v)] (wl kc ad X (B) (th) ov (hw)) (some (.int (nI 0))) (wl kc ad X (B) (0) ov (hw)) := by
  refine x_ret_of RX3 (by decide +kernel) rfl [some (.ref (ad 6)), some (.int (nI j)), some (.int (nI v)), none, none] (Nat.le_of_ble_eq_true rfl) rfl rfl ?_
  intro p e s m args below meth c M hr hlk hnm TB hAA
  have hB : ∀ r i, B r i < 2 ^ 31 := fun r i => Nat.lt_trans (hO.bd r i) (by decide)
  refine x_aload0 M dX3_setPrice_0 ?_
  refine x_iload1 M dX3_setPrice_1 ?_
  refine x_callS0 M TB hAA mv_X3_isWare kw_469 dX3_setPrice_2 (m_isWare1 hj) rfl ⟨by decide, by decide⟩ ⟨by decide, by decide⟩ (Nat.le_of_ble_eq_true rfl) ?_
  refine n_if_ne (tgt := 12) M (by first | omega | exact hB _ _) dX3_setPrice_5 (by decide) (fun q5 => ?_) (fun q5 => absurd q5 (by decide))
  refine x_iload2 M dX3_setPrice_12 ?_
  refine x_iconst (v := nI 0) M dX3_setPrice_13 (by decide +kernel) ?_
  refine x_sipush (v := nI 9999) M dX3_setPrice_14 (by decide +kernel) ?_
  refine x_callS0 M TB hAA mv_X3_isIn kw_472 dX3_setPrice_17 m_isIn rfl ⟨by decide, by decide⟩ ⟨by decide, by decide⟩ (Nat.le_of_ble_eq_true rfl) ?_
  refine b_if_eq (tgt := 27) M dX3_setPrice_20 (by decide) (fun q20 => absurd ⟨nI_nlt (Nat.zero_le _) (by omega), nI_nlt hv (by decide)⟩ q20) (fun q20 => ?_)
  refine x_iconst (v := nI 0) M dX3_setPrice_23 (by decide +kernel) ?_
  refine x_goto (tgt := 28) M dX3_setPrice_24 (by decide) ?_
  refine x_callV0 M TB hAA mv_X3_holds kw_475 dX3_setPrice_28 m_holds0 rfl wl_M rfl rfl ⟨by decide, by decide⟩ ⟨by decide, by decide⟩ (Nat.le_of_ble_eq_true rfl) ?_
  refine n_if_ne (tgt := 36) M (by first | omega | exact hB _ _) dX3_setPrice_31 (by decide) (fun q31 => ?_) (fun q31 => absurd q31 (by decide))
  refine x_aload0 M dX3_setPrice_36 ?_
  refine gM3 M TB kw_418 dX3_setPrice_37 ?_
  refine x_iload1 M dX3_setPrice_40 ?_
  refine aM1 M TB (by omega) dX3_setPrice_41 ?_
  refine x_iload2 M dX3_setPrice_42 ?_
  refine n_icmp_ne (tgt := 48) M (by first | omega | exact hB _ _) (by first | omega | exact hB _ _) dX3_setPrice_43 (by decide) (fun q43 => absurd he q43) (fun q43 => ?_)
  refine x_iconst (v := nI 0) M dX3_setPrice_46 (by decide +kernel) ?_
  exact x_iret M hr hlk dX3_setPrice_47 ⟨by decide, by decide⟩ rfl rfl
set_option maxRecDepth 20000 in
set_option maxHeartbeats 2000000 in
theorem m_setPrice (hO : Ok B) (hm : B 0 2 + 12 < 2 ^ 30) {j v : Nat} (hj : j < 12) (hv : v ≤ 9999) (he : B 1 j ≠ v) : x_Ret l D kc A yX3_setPrice cX3_setPrice 5 (some FieldType.int) rm_X3_setPrice [.ref (ad 6), .int (nI j), .int (nI v)] (wl kc ad X (B) (th) ov (hw)) (some (.int (nI (spl (up B 1 j v) j (B 0 0)).2))) (wl kc ad X ((spl (up B 1 j v) j (B 0 0)).1) (0) ov (hw)) := by
  refine x_ret_of RX3 (by decide +kernel) rfl [some (.ref (ad 6)), some (.int (nI j)), some (.int (nI v)), none, none] (Nat.le_of_ble_eq_true rfl) rfl rfl ?_
  intro p e s m args below meth c M hr hlk hnm TB hAA
  have hB : ∀ r i, B r i < 2 ^ 31 := fun r i => Nat.lt_trans (hO.bd r i) (by decide)
  have hn := hO.n
  have hY : Bd (up B 1 j v) := Bd_up hO.bd (by omega)
  have loop : ∀ (d k : Nat), k + d = B 0 0 → x_X p l e rm_X3_setPrice s m args below meth c D A 5 0 0 (MQ below (x_Qc D A (some (.int (nI (spl (up B 1 j v) j (B 0 0)).2))) (wl kc ad X ((spl (up B 1 j v) j (B 0 0)).1) (0) ov (hw))) args s rm_X3_setPrice.cells rm_X3_setPrice.slots A) (wl kc ad X ((spl (up B 1 j v) j k).1) (0) ov (hw)) 60 [some (.ref (ad 6)), some (.int (nI j)), some (.int (nI v)), some (.int (nI (spl (up B 1 j v) j k).2)), some (.int (nI k))] [] := by
    intro d
    induction d with
    | zero =>
      intro k hk
      obtain ⟨hs1, hs2, hs3, hs4, hs5, hs6⟩ := spl_ok hY hm j k (by omega)
      have hB : ∀ r i, (spl (up B 1 j v) j k).1 r i < 2 ^ 31 := fun r i => Nat.lt_trans (hs1 r i) (by decide)
      have e0 : (up B 1 j v) 0 0 = B 0 0 := rfl
      refine x_iload4 M dX3_setPrice_60 ?_
      refine x_aload0 M dX3_setPrice_62 ?_
      refine gM4 M TB kw_419 dX3_setPrice_63 ?_
      refine n_icmp_ge (tgt := 95) M (by first | omega | exact hB _ _) (by first | omega | exact hB _ _) dX3_setPrice_66 (by decide) (fun q66 => ?_) (fun q66 => absurd q66 (by omega))
      refine x_iload3 M dX3_setPrice_95 ?_
      exact x_iret M hr hlk dX3_setPrice_96 ⟨by decide, by decide⟩ (by rw [show k = B 0 0 by omega]) (by rw [show k = B 0 0 by omega])
    | succ d ih =>
      intro k hk
      obtain ⟨hs1, hs2, hs3, hs4, hs5, hs6⟩ := spl_ok hY hm j k (by omega)
      have hB : ∀ r i, (spl (up B 1 j v) j k).1 r i < 2 ^ 31 := fun r i => Nat.lt_trans (hs1 r i) (by decide)
      have e0 : (up B 1 j v) 0 0 = B 0 0 := rfl
      refine x_iload4 M dX3_setPrice_60 ?_
      refine x_aload0 M dX3_setPrice_62 ?_
      refine gM4 M TB kw_419 dX3_setPrice_63 ?_
      refine n_icmp_ge (tgt := 95) M (by first | omega | exact hB _ _) (by first | omega | exact hB _ _) dX3_setPrice_66 (by decide) (fun q66 => absurd q66 (by omega)) (fun q66 => ?_)
      refine x_aload0 M dX3_setPrice_69 ?_
      refine gM5 M TB kw_420 dX3_setPrice_70 ?_
      refine x_iload4 M dX3_setPrice_73 ?_
      refine aM2 M TB (by omega) dX3_setPrice_75 ?_
      refine x_iload1 M dX3_setPrice_76 ?_
      refine n_icmp_ne (tgt := 89) M (by first | omega | exact hB _ _) (by first | omega | exact hB _ _) dX3_setPrice_77 (by decide) (fun q77 => ?_) (fun q77 => ?_)
      · refine n_inc4 M dX3_setPrice_89 ?_
        refine x_goto (tgt := 60) M dX3_setPrice_92 (by decide) ?_
        have h9 := ih (k + 1) (by omega)
        rw [spl_m (fun h => q77 ((hs5 k).trans h))] at h9
        exact h9
      · refine x_aload0 M dX3_setPrice_80 ?_
        refine x_iload4 M dX3_setPrice_81 ?_
        refine x_callV0 M TB hAA mv_X3_gets kw_479 dX3_setPrice_83 (m_gets (B := (spl (up B 1 j v) j k).1) hs1 (i := k) (by omega)) rfl wl_M rfl rfl ⟨by decide, by decide⟩ ⟨by decide, by decide⟩ (Nat.le_of_ble_eq_true rfl) ?_
        refine n_inc3 M dX3_setPrice_86 ?_
        refine n_inc4 M dX3_setPrice_89 ?_
        refine x_goto (tgt := 60) M dX3_setPrice_92 (by decide) ?_
        have h9 := ih (k + 1) (by omega)
        rw [spl_p ((hs5 k).symm.trans q77)] at h9
        exact h9
  refine x_aload0 M dX3_setPrice_0 ?_
  refine x_iload1 M dX3_setPrice_1 ?_
  refine x_callS0 M TB hAA mv_X3_isWare kw_469 dX3_setPrice_2 (m_isWare1 hj) rfl ⟨by decide, by decide⟩ ⟨by decide, by decide⟩ (Nat.le_of_ble_eq_true rfl) ?_
  refine n_if_ne (tgt := 12) M (by first | omega | exact hB _ _) dX3_setPrice_5 (by decide) (fun q5 => ?_) (fun q5 => absurd q5 (by decide))
  refine x_iload2 M dX3_setPrice_12 ?_
  refine x_iconst (v := nI 0) M dX3_setPrice_13 (by decide +kernel) ?_
  refine x_sipush (v := nI 9999) M dX3_setPrice_14 (by decide +kernel) ?_
  refine x_callS0 M TB hAA mv_X3_isIn kw_472 dX3_setPrice_17 m_isIn rfl ⟨by decide, by decide⟩ ⟨by decide, by decide⟩ (Nat.le_of_ble_eq_true rfl) ?_
  refine b_if_eq (tgt := 27) M dX3_setPrice_20 (by decide) (fun q20 => absurd ⟨nI_nlt (Nat.zero_le _) (by omega), nI_nlt hv (by decide)⟩ q20) (fun q20 => ?_)
  refine x_iconst (v := nI 0) M dX3_setPrice_23 (by decide +kernel) ?_
  refine x_goto (tgt := 28) M dX3_setPrice_24 (by decide) ?_
  refine x_callV0 M TB hAA mv_X3_holds kw_475 dX3_setPrice_28 m_holds0 rfl wl_M rfl rfl ⟨by decide, by decide⟩ ⟨by decide, by decide⟩ (Nat.le_of_ble_eq_true rfl) ?_
  refine n_if_ne (tgt := 36) M (by first | omega | exact hB _ _) dX3_setPrice_31 (by decide) (fun q31 => ?_) (fun q31 => absurd q31 (by decide))
  refine x_aload0 M dX3_setPrice_36 ?_
  refine gM3 M TB kw_418 dX3_setPrice_37 ?_
  refine x_iload1 M dX3_setPrice_40 ?_
  refine aM1 M TB (by omega) dX3_setPrice_41 ?_
  refine x_iload2 M dX3_setPrice_42 ?_
  refine n_icmp_ne (tgt := 48) M (by first | omega | exact hB _ _) (by first | omega | exact hB _ _) dX3_setPrice_43 (by decide) (fun q43 => ?_) (fun q43 => absurd q43 he)
  refine x_aload0 M dX3_setPrice_48 ?_
  refine gM3 M TB kw_418 dX3_setPrice_49 ?_
  refine x_iload1 M dX3_setPrice_52 ?_
  refine x_iload2 M dX3_setPrice_53 ?_
  refine sM1 M TB (by omega) dX3_setPrice_54 ?_
  refine x_iconst (v := nI 0) M dX3_setPrice_55 (by decide +kernel) ?_
  refine x_istore3 M dX3_setPrice_56 ?_
  refine x_iconst (v := nI 0) M dX3_setPrice_57 (by decide +kernel) ?_
  refine x_istore4 M dX3_setPrice_58 ?_
  exact loop (B 0 0) 0 (by omega)
set_option maxRecDepth 20000 in
set_option maxHeartbeats 2000000 in
theorem m_setPrice1 {x x2 : Int32} (h : bad 12 x) : x_Ret l D kc A yX3_setPrice cX3_setPrice 5 (some FieldType.int) rm_X3_setPrice [.ref (ad 6), .int x, .int x2] (wl kc ad X (B) (th) ov (hw)) (some (.int (nI 0))) (wl kc ad X (B) (1) ov (hw)) := by
  refine x_ret_of RX3 (by decide +kernel) rfl [some (.ref (ad 6)), some (.int x), some (.int x2), none, none] (Nat.le_of_ble_eq_true rfl) rfl rfl ?_
  intro p e s m args below meth c M hr hlk hnm TB hAA
  refine x_aload0 M dX3_setPrice_0 ?_
  refine x_iload1 M dX3_setPrice_1 ?_
  refine x_callS0 M TB hAA mv_X3_isWare kw_469 dX3_setPrice_2 (m_isWare0 h) rfl ⟨by decide, by decide⟩ ⟨by decide, by decide⟩ (Nat.le_of_ble_eq_true rfl) ?_
  refine n_if_ne (tgt := 12) M (by first | omega | exact hB _ _) dX3_setPrice_5 (by decide) (fun q5 => absurd rfl q5) (fun q5 => ?_)
  refine x_iconst (v := nI 1) M dX3_setPrice_8 (by decide +kernel) ?_
  refine x_goto (tgt := 28) M dX3_setPrice_9 (by decide) ?_
  refine x_callV0 M TB hAA mv_X3_holds kw_475 dX3_setPrice_28 (m_holds1 (t := 1) (by decide) (by decide)) rfl wl_M rfl rfl ⟨by decide, by decide⟩ ⟨by decide, by decide⟩ (Nat.le_of_ble_eq_true rfl) ?_
  refine n_if_ne (tgt := 36) M (by first | omega | exact hB _ _) dX3_setPrice_31 (by decide) (fun q31 => absurd rfl q31) (fun q31 => ?_)
  refine x_iconst (v := nI 0) M dX3_setPrice_34 (by decide +kernel) ?_
  exact x_iret M hr hlk dX3_setPrice_35 ⟨by decide, by decide⟩ rfl rfl
set_option maxRecDepth 20000 in
set_option maxHeartbeats 2000000 in
theorem m_setPrice2 {j : Nat} (hj : j < 12) {x2 : Int32} (h : ¬ (¬ x2 < nI 0 ∧ x2 ≤ nI 9999)) : x_Ret l D kc A yX3_setPrice cX3_setPrice 5 (some FieldType.int) rm_X3_setPrice [.ref (ad 6), .int (nI j), .int x2] (wl kc ad X (B) (th) ov (hw)) (some (.int (nI 0))) (wl kc ad X (B) (2) ov (hw)) := by
  refine x_ret_of RX3 (by decide +kernel) rfl [some (.ref (ad 6)), some (.int (nI j)), some (.int x2), none, none] (Nat.le_of_ble_eq_true rfl) rfl rfl ?_
  intro p e s m args below meth c M hr hlk hnm TB hAA
  refine x_aload0 M dX3_setPrice_0 ?_
  refine x_iload1 M dX3_setPrice_1 ?_
  refine x_callS0 M TB hAA mv_X3_isWare kw_469 dX3_setPrice_2 (m_isWare1 hj) rfl ⟨by decide, by decide⟩ ⟨by decide, by decide⟩ (Nat.le_of_ble_eq_true rfl) ?_
  refine n_if_ne (tgt := 12) M (by first | omega | exact hB _ _) dX3_setPrice_5 (by decide) (fun q5 => ?_) (fun q5 => absurd q5 (by decide))
  refine x_iload2 M dX3_setPrice_12 ?_
  refine x_iconst (v := nI 0) M dX3_setPrice_13 (by decide +kernel) ?_
  refine x_sipush (v := nI 9999) M dX3_setPrice_14 (by decide +kernel) ?_
  refine x_callS0 M TB hAA mv_X3_isIn kw_472 dX3_setPrice_17 m_isIn rfl ⟨by decide, by decide⟩ ⟨by decide, by decide⟩ (Nat.le_of_ble_eq_true rfl) ?_
  refine b_if_eq (tgt := 27) M dX3_setPrice_20 (by decide) (fun q20 => ?_) (fun q20 => (h ⟨q20.1, Int32.not_lt.mp q20.2⟩).elim)
  refine x_iconst (v := nI 2) M dX3_setPrice_27 (by decide +kernel) ?_
  refine x_callV0 M TB hAA mv_X3_holds kw_475 dX3_setPrice_28 (m_holds1 (t := 2) (by decide) (by decide)) rfl wl_M rfl rfl ⟨by decide, by decide⟩ ⟨by decide, by decide⟩ (Nat.le_of_ble_eq_true rfl) ?_
  refine n_if_ne (tgt := 36) M (by first | omega | exact hB _ _) dX3_setPrice_31 (by decide) (fun q31 => absurd rfl q31) (fun q31 => ?_)
  refine x_iconst (v := nI 0) M dX3_setPrice_34 (by decide +kernel) ?_
  exact x_iret M hr hlk dX3_setPrice_35 ⟨by decide, by decide⟩ rfl rfl
end XM
