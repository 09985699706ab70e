/-! the class's methods that the law calls -/
section XM
variable {l : Launch} {D : va_G} {kc : Nat → ClassId} {A : Nat → Prop} {ad : Nat → Nat} {X B : St} {hf : Nat → Int64} {ex : va_W}
def hng (S : St) (w : Nat) : St := up (up (up S 2 (S 0 0) w) 3 (S 0 0) (S 1 w)) 0 0 (S 0 0 + 1)
def car (S : St) (j w : Nat) : St := if S 3 j = S 1 w then up (up S 2 j w) 8 j 0 else gets (up (up S 2 j w) 8 j 0) j
theorem cnt_le (S : St) : ∀ k, cnt S k ≤ k
  | 0 => Nat.le_refl _
  | k + 1 => by
    have := cnt_le S k
    unfold cnt
    split <;> omega
theorem spl_ok {S : St} (h : Bd S) (hm : S 0 2 + 12 < 2 ^ 30) (w : Nat) : ∀ k, k ≤ 12 → Bd (spl S w k).1 ∧ (spl S w k).1 0 0 = S 0 0 ∧ (spl S w k).1 0 1 = S 0 1 ∧ (spl S w k).1 0 2 ≤ S 0 2 + k ∧ (∀ i, (spl S w k).1 2 i = S 2 i) ∧ (spl S w k).2 ≤ k
  | 0, _ => ⟨h, rfl, rfl, Nat.le_refl _, fun _ => rfl, Nat.le_refl _⟩
  | k + 1, hk => by
    obtain ⟨h1, h2, h3, h4, h5, h6⟩ := spl_ok h hm w k (by omega)
    have ht := h 0 1
    unfold spl
    split
    · refine ⟨Bd_up (Bd_up (Bd_up h1 (by omega)) (by omega)) (by omega), h2, h3, ?_, h5, by omega⟩
      show (spl S w k).1 0 2 + 1 ≤ _
      omega
    · exact ⟨h1, h2, h3, by omega, h5, by omega⟩
theorem spl_p {S : St} {w k : Nat} (h : S 2 k = w) : spl S w (k + 1) = (gets (spl S w k).1 k, (spl S w k).2 + 1) := if_pos h
theorem spl_m {S : St} {w k : Nat} (h : ¬ S 2 k = w) : spl S w (k + 1) = spl S w k := if_neg h
theorem cnt_z {S : St} {k : Nat} (h : S 8 k = 0) : cnt S (k + 1) = cnt S k := if_pos h
theorem cnt_o {S : St} {k : Nat} (h : ¬ S 8 k = 0) : cnt S (k + 1) = cnt S k + 1 := if_neg h
theorem lie_y {S : St} {k : Nat} (h : S 3 k < S 1 (S 2 k)) : lie S (k + 1) = lie S k ||| (nI 1 <<< (nI k &&& 31)) := if_pos h
theorem lie_n {S : St} {k : Nat} (h : ¬ S 3 k < S 1 (S 2 k)) : lie S (k + 1) = lie S k := if_neg h
theorem mv_X2_price : x_MV yX2_price cX2_price 2 (some FieldType.int) 1 := ⟨kw_262, kw_9, ⟨by decide +kernel, by decide +kernel⟩, by decide +kernel, kw_260, kw_261⟩
abbrev rm_X2_price : Room := { frames := 1, cells := 0, slots := 0, locals := 20 }
set_option maxRecDepth 20000 in
set_option maxHeartbeats 2000000 in
theorem c_price {j : Nat} (hj : j < 12) : x_Ret l D kc A yX2_price cX2_price 2 (some FieldType.int) rm_X2_price [.ref (ad 0), .int (nI j)] (wl kc ad X B hf ex) (some (.int (nI (X 1 j)))) (wl kc ad X B hf ex) := by
  refine x_ret_of RX2 (by decide +kernel) rfl [some (.ref (ad 0)), some (.int (nI j))] (Nat.le_of_ble_eq_true rfl) rfl rfl ?_
  intro p e s m args below meth c M hr hlk hnm TB hAA
  refine x_iload1 M dX2_price_0 ?_
  refine x_callS0 M TB hAA mv_X2_needWare kw_130 dX2_price_1 (c_needWare hj) rfl ⟨by decide, by decide⟩ ⟨by decide, by decide⟩ (Nat.le_of_ble_eq_true rfl) ?_
  refine x_aload0 M dX2_price_4 ?_
  refine gX0 M TB kw_87 dX2_price_5 ?_
  refine x_iload1 M dX2_price_8 ?_
  refine aP M TB (by omega) dX2_price_9 ?_
  exact x_iret M hr hlk dX2_price_10 ⟨by decide, by decide⟩ rfl rfl
theorem mv_X2_hang : x_MV yX2_hang cX2_hang 2 (some FieldType.int) 1 := ⟨kw_233, kw_9, ⟨by decide +kernel, by decide +kernel⟩, by decide +kernel, kw_231, kw_232⟩
abbrev rm_X2_hang : Room := { frames := 1, cells := 0, slots := 0, locals := 20 }
set_option maxRecDepth 20000 in
set_option maxHeartbeats 2000000 in
theorem c_hang (hO : Ok X) (hn : X 0 0 < 12) {j : Nat} (hj : j < 12) : x_Ret l D kc A yX2_hang cX2_hang 2 (some FieldType.int) rm_X2_hang [.ref (ad 0), .int (nI j)] (wl kc ad X B hf ex) (some (.int (nI (X 0 0)))) (wl kc ad (hng X j) B hf ex) := by
  refine x_ret_of RX2 (by decide +kernel) rfl [some (.ref (ad 0)), some (.int (nI j))] (Nat.le_of_ble_eq_true rfl) rfl rfl ?_
  intro p e s m args below meth c M hr hlk hnm TB hAA
  have hB : ∀ r i, X r i < 2 ^ 31 := fun r i => Nat.lt_trans (hO.bd r i) (by decide)
  refine x_iload1 M dX2_hang_0 ?_
  refine x_callS0 M TB hAA mv_X2_needWare kw_130 dX2_hang_1 (c_needWare hj) rfl ⟨by decide, by decide⟩ ⟨by decide, by decide⟩ (Nat.le_of_ble_eq_true rfl) ?_
  refine x_aload0 M dX2_hang_4 ?_
  refine gX3 M TB kw_90 dX2_hang_5 ?_
  refine x_bipush (v := nI 12) M dX2_hang_8 (by decide +kernel) ?_
  refine n_icmp_lt (tgt := 23) M (by first | omega | exact hB _ _) (by first | omega | exact hB _ _) dX2_hang_10 (by decide) (fun q10 => ?_) (fun q10 => absurd hn (by omega))
  refine x_aload0 M dX2_hang_23 ?_
  refine gX1 M TB kw_88 dX2_hang_24 ?_
  refine x_aload0 M dX2_hang_27 ?_
  refine gX3 M TB kw_90 dX2_hang_28 ?_
  refine aL (j := X 0 0) M TB hn dX2_hang_31 ?_
  refine x_iload1 M dX2_hang_32 ?_
  refine pL0 M TB hn kw_55 dX2_hang_33 ?_
  refine x_aload0 M dX2_hang_36 ?_
  refine gX1 M TB kw_88 dX2_hang_37 ?_
  refine x_aload0 M dX2_hang_40 ?_
  refine gX3 M TB kw_90 dX2_hang_41 ?_
  refine aL (j := X 0 0) M TB hn dX2_hang_44 ?_
  refine x_aload0 M dX2_hang_45 ?_
  refine gX0 M TB kw_87 dX2_hang_46 ?_
  refine x_iload1 M dX2_hang_49 ?_
  refine aP M TB (by omega) dX2_hang_50 ?_
  refine pL1 M TB hn kw_57 dX2_hang_51 ?_
  refine x_aload0 M dX2_hang_54 ?_
  refine x_dup M dX2_hang_55 rfl ?_
  refine gX3 M TB kw_90 dX2_hang_56 ?_
  refine x_iconst (v := nI 1) M dX2_hang_59 (by decide +kernel) ?_
  refine n_add M dX2_hang_60 ?_
  refine pX3 M TB kw_90 dX2_hang_61 ?_
  refine x_aload0 M dX2_hang_64 ?_
  refine gX3 M TB kw_90 dX2_hang_65 ?_
  refine x_iconst (v := nI 1) M dX2_hang_68 (by decide +kernel) ?_
  refine n_sub (a := X 0 0 + 1) M (by omega) dX2_hang_69 ?_
  exact x_iret M hr hlk dX2_hang_70 ⟨by decide, by decide⟩ (by rw [Nat.add_sub_cancel]) rfl
theorem mv_X2_carry : x_MV yX2_carry cX2_carry 4 (some FieldType.boolean) 2 := ⟨kw_312, kw_9, ⟨by decide +kernel, by decide +kernel⟩, by decide +kernel, kw_310, kw_311⟩
abbrev rm_X2_carry : Room := { frames := 1, cells := 0, slots := 0, locals := 21 }
set_option maxRecDepth 20000 in
set_option maxHeartbeats 2000000 in
theorem c_carry (hO : Ok X) {j : Nat} (hj : j < X 0 0) {w : Nat} (hw12 : w < 12) (hne : X 2 j ≠ w) : x_Ret l D kc A yX2_carry cX2_carry 4 (some FieldType.boolean) rm_X2_carry [.ref (ad 0), .int (nI j), .int (nI w)] (wl kc ad X B hf ex) (some (.int (if ¬ X 3 j = X 1 w then 1 else 0 : Int32))) (wl kc ad (car X j w) B hf ex) := by
  refine x_ret_of RX2 (by decide +kernel) rfl [some (.ref (ad 0)), some (.int (nI j)), some (.int (nI w)), none] (Nat.le_of_ble_eq_true rfl) rfl rfl ?_
  intro p e s m args below meth c M hr hlk hnm TB hAA
  have hB : ∀ r i, X r i < 2 ^ 31 := fun r i => Nat.lt_trans (hO.bd r i) (by decide)
  have hn := hO.n
  have hZ : Bd (up (up X 2 j w) 8 j 0) := Bd_up (Bd_up hO.bd (by omega)) (by omega)
  refine x_aload0 M dX2_carry_0 ?_
  refine x_iload1 M dX2_carry_1 ?_
  refine x_callV0 M TB hAA mv_X2_labelOf kw_254 dX2_carry_2 (c_labelOf hO.bd hO.n hj) rfl wl_X rfl rfl ⟨by decide, by decide⟩ ⟨by decide, by decide⟩ (Nat.le_of_ble_eq_true rfl) ?_
  refine x_astore3 M dX2_carry_5 ?_
  refine x_iload2 M dX2_carry_6 ?_
  refine x_callS0 M TB hAA mv_X2_needWare kw_130 dX2_carry_7 (c_needWare hw12) rfl ⟨by decide, by decide⟩ ⟨by decide, by decide⟩ (Nat.le_of_ble_eq_true rfl) ?_
  refine x_aload3 M dX2_carry_10 ?_
  refine gL0 M TB (by omega) kw_55 dX2_carry_11 ?_
  refine x_iload2 M dX2_carry_14 ?_
  refine n_icmp_ne (tgt := 28) M (by first | omega | exact hB _ _) (by first | omega | exact hB _ _) dX2_carry_15 (by decide) (fun q15 => ?_) (fun q15 => absurd q15 hne)
  refine x_aload3 M dX2_carry_28 ?_
  refine x_iload2 M dX2_carry_29 ?_
  refine pL0 M TB (by omega) kw_55 dX2_carry_30 ?_
  refine x_aload3 M dX2_carry_33 ?_
  refine x_iconst (v := (-1)) M dX2_carry_34 (by decide +kernel) ?_
  refine pL4 (v := 0) M TB (by omega) rfl kw_63 dX2_carry_35 ?_
  refine x_aload3 M dX2_carry_38 ?_
  refine gL1 M TB (by omega) kw_57 dX2_carry_39 ?_
  refine x_aload0 M dX2_carry_42 ?_
  refine gX0 M TB kw_87 dX2_carry_43 ?_
  refine x_iload2 M dX2_carry_46 ?_
  refine aP M TB (by omega) dX2_carry_47 ?_
  refine n_icmp_ne (tgt := 53) M (by first | omega | exact hB _ _) (by first | omega | exact hB _ _) dX2_carry_48 (by decide) (fun q48 => ?_) (fun q48 => ?_)
  · refine x_aload0 M dX2_carry_53 ?_
    refine x_aload3 M dX2_carry_54 ?_
    refine x_callV0 M TB hAA mv_X2_giveOrder kw_301 dX2_carry_55 (c_giveOrder (X := (up (up X 2 j w) 8 j 0)) hZ (i := j) (by omega)) rfl wl_X rfl rfl ⟨by decide, by decide⟩ ⟨by decide, by decide⟩ (Nat.le_of_ble_eq_true rfl) ?_
    refine x_iconst (v := nI 1) M dX2_carry_58 (by decide +kernel) ?_
    exact x_zret M hr hlk dX2_carry_59 ⟨by decide, by decide⟩ (Or.inr rfl) (by rw [if_pos (show ¬ X 3 j = X 1 w from q48)]; rfl) (by rw [car, if_neg (show ¬ X 3 j = X 1 w from q48)])
  · refine x_iconst (v := nI 0) M dX2_carry_51 (by decide +kernel) ?_
    exact x_zret M hr hlk dX2_carry_52 ⟨by decide, by decide⟩ (Or.inl rfl) (by rw [if_neg (fun h : ¬ X 3 j = X 1 w => h q48)]; rfl) (by rw [car, if_pos (show X 3 j = X 1 w from q48)])
theorem mv_X2_charge : x_MV yX2_charge cX2_charge 4 (some FieldType.int) 1 := ⟨kw_317, kw_9, ⟨by decide +kernel, by decide +kernel⟩, by decide +kernel, kw_315, kw_316⟩
abbrev rm_X2_charge : Room := { frames := 1, cells := 0, slots := 0, locals := 21 }
set_option maxRecDepth 20000 in
set_option maxHeartbeats 2000000 in
theorem c_charge (hO : Ok X) {j : Nat} (hj : j < X 0 0) : x_Ret l D kc A yX2_charge cX2_charge 4 (some FieldType.int) rm_X2_charge [.ref (ad 0), .int (nI j)] (wl kc ad X B hf ex) (some (.int (nI (X 5 j)))) (wl kc ad (up X 5 j 1000) B hf ex) := by
  refine x_ret_of RX2 (by decide +kernel) rfl [some (.ref (ad 0)), some (.int (nI j)), none, none] (Nat.le_of_ble_eq_true rfl) rfl rfl ?_
  intro p e s m args below meth c M hr hlk hnm TB hAA
  have hB : ∀ r i, X r i < 2 ^ 31 := fun r i => Nat.lt_trans (hO.bd r i) (by decide)
  have hn := hO.n
  refine x_aload0 M dX2_charge_0 ?_
  refine x_iload1 M dX2_charge_1 ?_
  refine x_callV0 M TB hAA mv_X2_labelOf kw_254 dX2_charge_2 (c_labelOf hO.bd hO.n hj) rfl wl_X rfl rfl ⟨by decide, by decide⟩ ⟨by decide, by decide⟩ (Nat.le_of_ble_eq_true rfl) ?_
  refine x_astore2 M dX2_charge_5 ?_
  refine x_aload2 M dX2_charge_6 ?_
  refine gL3 M TB (by omega) kw_61 dX2_charge_7 ?_
  refine x_istore3 M dX2_charge_10 ?_
  refine x_aload2 M dX2_charge_11 ?_
  refine x_sipush (v := nI 1000) M dX2_charge_12 (by decide +kernel) ?_
  refine pL3 M TB (by omega) kw_61 dX2_charge_15 ?_
  refine x_iload3 M dX2_charge_18 ?_
  exact x_iret M hr hlk dX2_charge_19 ⟨by decide, by decide⟩ rfl rfl
theorem mv_X2_loseSendings : x_MV yX2_loseSendings cX2_loseSendings 5 (some FieldType.int) 2 := ⟨kw_321, kw_9, ⟨by decide +kernel, by decide +kernel⟩, by decide +kernel, kw_319, kw_320⟩
abbrev rm_X2_loseSendings : Room := { frames := 1, cells := 0, slots := 0, locals := 22 }
set_option maxRecDepth 20000 in
set_option maxHeartbeats 2000000 in
theorem c_loseSendings (hO : Ok X) {j : Nat} (hj : j < X 0 0) {v : Nat} (hv : v ≤ 20) : x_Ret l D kc A yX2_loseSendings cX2_loseSendings 5 (some FieldType.int) rm_X2_loseSendings [.ref (ad 0), .int (nI j), .int (nI v)] (wl kc ad X B hf ex) (some (.int (nI (X 6 j)))) (wl kc ad (up X 6 j v) B hf ex) := by
  refine x_ret_of RX2 (by decide +kernel) rfl [some (.ref (ad 0)), some (.int (nI j)), some (.int (nI v)), none, none] (Nat.le_of_ble_eq_true rfl) rfl rfl ?_
  intro p e s m args below meth c M hr hlk hnm TB hAA
  have hB : ∀ r i, X r i < 2 ^ 31 := fun r i => Nat.lt_trans (hO.bd r i) (by decide)
  have hn := hO.n
  refine x_aload0 M dX2_loseSendings_0 ?_
  refine x_iload1 M dX2_loseSendings_1 ?_
  refine x_callV0 M TB hAA mv_X2_labelOf kw_254 dX2_loseSendings_2 (c_labelOf hO.bd hO.n hj) rfl wl_X rfl rfl ⟨by decide, by decide⟩ ⟨by decide, by decide⟩ (Nat.le_of_ble_eq_true rfl) ?_
  refine x_astore3 M dX2_loseSendings_5 ?_
  refine x_iload2 M dX2_loseSendings_6 ?_
  refine x_iconst (v := nI 0) M dX2_loseSendings_7 (by decide +kernel) ?_
  refine x_bipush (v := nI 20) M dX2_loseSendings_8 (by decide +kernel) ?_
  refine x_callS0 M TB hAA mv_X2_needWithin kw_282 dX2_loseSendings_10 (c_needWithin (Nat.zero_le _) hv (by decide)) rfl ⟨by decide, by decide⟩ ⟨by decide, by decide⟩ (Nat.le_of_ble_eq_true rfl) ?_
  refine x_aload3 M dX2_loseSendings_13 ?_
  refine gL6 M TB (by omega) kw_67 dX2_loseSendings_14 ?_
  refine x_istore4 M dX2_loseSendings_17 ?_
  refine x_aload3 M dX2_loseSendings_19 ?_
  refine x_iload2 M dX2_loseSendings_20 ?_
  refine pL6 M TB (by omega) kw_67 dX2_loseSendings_21 ?_
  refine x_iload4 M dX2_loseSendings_24 ?_
  exact x_iret M hr hlk dX2_loseSendings_26 ⟨by decide, by decide⟩ rfl rfl
theorem mv_X2_loseAnswers : x_MV yX2_loseAnswers cX2_loseAnswers 5 (some FieldType.int) 2 := ⟨kw_325, kw_9, ⟨by decide +kernel, by decide +kernel⟩, by decide +kernel, kw_323, kw_324⟩
abbrev rm_X2_loseAnswers : Room := { frames := 1, cells := 0, slots := 0, locals := 22 }
set_option maxRecDepth 20000 in
set_option maxHeartbeats 2000000 in
theorem c_loseAnswers (hO : Ok X) {j : Nat} (hj : j < X 0 0) {v : Nat} (hv : v ≤ 20) : x_Ret l D kc A yX2_loseAnswers cX2_loseAnswers 5 (some FieldType.int) rm_X2_loseAnswers [.ref (ad 0), .int (nI j), .int (nI v)] (wl kc ad X B hf ex) (some (.int (nI (X 7 j)))) (wl kc ad (up X 7 j v) B hf ex) := by
  refine x_ret_of RX2 (by decide +kernel) rfl [some (.ref (ad 0)), some (.int (nI j)), some (.int (nI v)), none, none] (Nat.le_of_ble_eq_true rfl) rfl rfl ?_
  intro p e s m args below meth c M hr hlk hnm TB hAA
  have hB : ∀ r i, X r i < 2 ^ 31 := fun r i => Nat.lt_trans (hO.bd r i) (by decide)
  have hn := hO.n
  refine x_aload0 M dX2_loseAnswers_0 ?_
  refine x_iload1 M dX2_loseAnswers_1 ?_
  refine x_callV0 M TB hAA mv_X2_labelOf kw_254 dX2_loseAnswers_2 (c_labelOf hO.bd hO.n hj) rfl wl_X rfl rfl ⟨by decide, by decide⟩ ⟨by decide, by decide⟩ (Nat.le_of_ble_eq_true rfl) ?_
  refine x_astore3 M dX2_loseAnswers_5 ?_
  refine x_iload2 M dX2_loseAnswers_6 ?_
  refine x_iconst (v := nI 0) M dX2_loseAnswers_7 (by decide +kernel) ?_
  refine x_bipush (v := nI 20) M dX2_loseAnswers_8 (by decide +kernel) ?_
  refine x_callS0 M TB hAA mv_X2_needWithin kw_282 dX2_loseAnswers_10 (c_needWithin (Nat.zero_le _) hv (by decide)) rfl ⟨by decide, by decide⟩ ⟨by decide, by decide⟩ (Nat.le_of_ble_eq_true rfl) ?_
  refine x_aload3 M dX2_loseAnswers_13 ?_
  refine gL7 M TB (by omega) kw_69 dX2_loseAnswers_14 ?_
  refine x_istore4 M dX2_loseAnswers_17 ?_
  refine x_aload3 M dX2_loseAnswers_19 ?_
  refine x_iload2 M dX2_loseAnswers_20 ?_
  refine pL7 M TB (by omega) kw_69 dX2_loseAnswers_21 ?_
  refine x_iload4 M dX2_loseAnswers_24 ?_
  exact x_iret M hr hlk dX2_loseAnswers_26 ⟨by decide, by decide⟩ rfl rfl
theorem mv_X2_time : x_MV yX2_time cX2_time 1 (some FieldType.int) 0 := ⟨kw_109, kw_9, ⟨by decide +kernel, by decide +kernel⟩, by decide +kernel, kw_107, kw_108⟩
abbrev rm_X2_time : Room := { frames := 0, cells := 0, slots := 0, locals := 0 }
set_option maxRecDepth 20000 in
set_option maxHeartbeats 2000000 in
theorem c_time  : x_Ret l D kc A yX2_time cX2_time 1 (some FieldType.int) rm_X2_time [.ref (ad 0)] (wl kc ad X B hf ex) (some (.int (nI (X 0 1)))) (wl kc ad X B hf ex) := by
  refine x_ret_of RX2 (by decide +kernel) rfl [some (.ref (ad 0))] (Nat.le_of_ble_eq_true rfl) rfl rfl ?_
  intro p e s m args below meth c M hr hlk hnm TB hAA
  refine x_aload0 M dX2_time_0 ?_
  refine gX4 M TB kw_91 dX2_time_1 ?_
  exact x_iret M hr hlk dX2_time_4 ⟨by decide, by decide⟩ rfl rfl
theorem mv_X2_order : x_MV yX2_order cX2_order 2 (some FieldType.int) 1 := ⟨kw_274, kw_9, ⟨by decide +kernel, by decide +kernel⟩, by decide +kernel, kw_272, kw_273⟩
abbrev rm_X2_order : Room := { frames := 1, cells := 0, slots := 0, locals := 21 }
set_option maxRecDepth 20000 in
set_option maxHeartbeats 2000000 in
theorem c_order (hO : Ok X) {j : Nat} (hj : j < X 0 0) : x_Ret l D kc A yX2_order cX2_order 2 (some FieldType.int) rm_X2_order [.ref (ad 0), .int (nI j)] (wl kc ad X B hf ex) (some (.int (eo (X 8 j)))) (wl kc ad X B hf ex) := by
  refine x_ret_of RX2 (by decide +kernel) rfl [some (.ref (ad 0)), some (.int (nI j))] (Nat.le_of_ble_eq_true rfl) rfl rfl ?_
  intro p e s m args below meth c M hr hlk hnm TB hAA
  have hB : ∀ r i, X r i < 2 ^ 31 := fun r i => Nat.lt_trans (hO.bd r i) (by decide)
  have hn := hO.n
  refine x_aload0 M dX2_order_0 ?_
  refine x_iload1 M dX2_order_1 ?_
  refine x_callV0 M TB hAA mv_X2_labelOf kw_254 dX2_order_2 (c_labelOf hO.bd hO.n hj) rfl wl_X rfl rfl ⟨by decide, by decide⟩ ⟨by decide, by decide⟩ (Nat.le_of_ble_eq_true rfl) ?_
  refine gL4 M TB (by omega) kw_63 dX2_order_5 ?_
  exact x_iret M hr hlk dX2_order_8 ⟨by decide, by decide⟩ rfl rfl
theorem mv_X2_shown : x_MV yX2_shown cX2_shown 2 (some FieldType.int) 1 := ⟨kw_253, kw_9, ⟨by decide +kernel, by decide +kernel⟩, by decide +kernel, kw_251, kw_252⟩
abbrev rm_X2_shown : Room := { frames := 1, cells := 0, slots := 0, locals := 21 }
set_option maxRecDepth 20000 in
set_option maxHeartbeats 2000000 in
theorem c_shown (hO : Ok X) {j : Nat} (hj : j < X 0 0) : x_Ret l D kc A yX2_shown cX2_shown 2 (some FieldType.int) rm_X2_shown [.ref (ad 0), .int (nI j)] (wl kc ad X B hf ex) (some (.int (nI (X 3 j)))) (wl kc ad X B hf ex) := by
  refine x_ret_of RX2 (by decide +kernel) rfl [some (.ref (ad 0)), some (.int (nI j))] (Nat.le_of_ble_eq_true rfl) rfl rfl ?_
  intro p e s m args below meth c M hr hlk hnm TB hAA
  have hB : ∀ r i, X r i < 2 ^ 31 := fun r i => Nat.lt_trans (hO.bd r i) (by decide)
  have hn := hO.n
  refine x_aload0 M dX2_shown_0 ?_
  refine x_iload1 M dX2_shown_1 ?_
  refine x_callV0 M TB hAA mv_X2_labelOf kw_254 dX2_shown_2 (c_labelOf hO.bd hO.n hj) rfl wl_X rfl rfl ⟨by decide, by decide⟩ ⟨by decide, by decide⟩ (Nat.le_of_ble_eq_true rfl) ?_
  refine gL1 M TB (by omega) kw_57 dX2_shown_5 ?_
  exact x_iret M hr hlk dX2_shown_8 ⟨by decide, by decide⟩ rfl rfl
theorem mv_X2_ghosts : x_MV yX2_ghosts cX2_ghosts 2 (some FieldType.int) 1 := ⟨kw_270, kw_9, ⟨by decide +kernel, by decide +kernel⟩, by decide +kernel, kw_268, kw_269⟩
abbrev rm_X2_ghosts : Room := { frames := 1, cells := 0, slots := 0, locals := 21 }
set_option maxRecDepth 20000 in
set_option maxHeartbeats 2000000 in
theorem c_ghosts (hO : Ok X) {j : Nat} (hj : j < X 0 0) : x_Ret l D kc A yX2_ghosts cX2_ghosts 2 (some FieldType.int) rm_X2_ghosts [.ref (ad 0), .int (nI j)] (wl kc ad X B hf ex) (some (.int (nI (X 4 j)))) (wl kc ad X B hf ex) := by
  refine x_ret_of RX2 (by decide +kernel) rfl [some (.ref (ad 0)), some (.int (nI j))] (Nat.le_of_ble_eq_true rfl) rfl rfl ?_
  intro p e s m args below meth c M hr hlk hnm TB hAA
  have hB : ∀ r i, X r i < 2 ^ 31 := fun r i => Nat.lt_trans (hO.bd r i) (by decide)
  have hn := hO.n
  refine x_aload0 M dX2_ghosts_0 ?_
  refine x_iload1 M dX2_ghosts_1 ?_
  refine x_callV0 M TB hAA mv_X2_labelOf kw_254 dX2_ghosts_2 (c_labelOf hO.bd hO.n hj) rfl wl_X rfl rfl ⟨by decide, by decide⟩ ⟨by decide, by decide⟩ (Nat.le_of_ble_eq_true rfl) ?_
  refine gL2 M TB (by omega) kw_59 dX2_ghosts_5 ?_
  exact x_iret M hr hlk dX2_ghosts_8 ⟨by decide, by decide⟩ rfl rfl
theorem mv_X2_battery : x_MV yX2_battery cX2_battery 2 (some FieldType.int) 1 := ⟨kw_266, kw_9, ⟨by decide +kernel, by decide +kernel⟩, by decide +kernel, kw_264, kw_265⟩
abbrev rm_X2_battery : Room := { frames := 1, cells := 0, slots := 0, locals := 21 }
set_option maxRecDepth 20000 in
set_option maxHeartbeats 2000000 in
theorem c_battery (hO : Ok X) {j : Nat} (hj : j < X 0 0) : x_Ret l D kc A yX2_battery cX2_battery 2 (some FieldType.int) rm_X2_battery [.ref (ad 0), .int (nI j)] (wl kc ad X B hf ex) (some (.int (nI (X 5 j)))) (wl kc ad X B hf ex) := by
  refine x_ret_of RX2 (by decide +kernel) rfl [some (.ref (ad 0)), some (.int (nI j))] (Nat.le_of_ble_eq_true rfl) rfl rfl ?_
  intro p e s m args below meth c M hr hlk hnm TB hAA
  have hB : ∀ r i, X r i < 2 ^ 31 := fun r i => Nat.lt_trans (hO.bd r i) (by decide)
  have hn := hO.n
  refine x_aload0 M dX2_battery_0 ?_
  refine x_iload1 M dX2_battery_1 ?_
  refine x_callV0 M TB hAA mv_X2_labelOf kw_254 dX2_battery_2 (c_labelOf hO.bd hO.n hj) rfl wl_X rfl rfl ⟨by decide, by decide⟩ ⟨by decide, by decide⟩ (Nat.le_of_ble_eq_true rfl) ?_
  refine gL3 M TB (by omega) kw_61 dX2_battery_5 ?_
  exact x_iret M hr hlk dX2_battery_8 ⟨by decide, by decide⟩ rfl rfl
theorem mv_X2_orders : x_MV yX2_orders cX2_orders 3 (some FieldType.int) 0 := ⟨kw_113, kw_9, ⟨by decide +kernel, by decide +kernel⟩, by decide +kernel, kw_111, kw_112⟩
abbrev rm_X2_orders : Room := { frames := 0, cells := 0, slots := 0, locals := 0 }
set_option maxRecDepth 20000 in
set_option maxHeartbeats 2000000 in
theorem c_orders (hO : Ok X) : x_Ret l D kc A yX2_orders cX2_orders 3 (some FieldType.int) rm_X2_orders [.ref (ad 0)] (wl kc ad X B hf ex) (some (.int (nI (cnt X (X 0 0))))) (wl kc ad X B hf ex) := by
  refine x_ret_of RX2 (by decide +kernel) rfl [some (.ref (ad 0)), none, none] (Nat.le_of_ble_eq_true rfl) rfl rfl ?_
  intro p e s m args below meth c M hr hlk hnm TB hAA
  have hB : ∀ r i, X r i < 2 ^ 31 := fun r i => Nat.lt_trans (hO.bd r i) (by decide)
  have loop : ∀ (d k : Nat), k + d = X 0 0 → x_X p l e rm_X2_orders s m args below meth c D A 3 0 0 (MQ below (x_Qc D A (some (.int (nI (cnt X (X 0 0))))) (wl kc ad X B hf ex)) args s rm_X2_orders.cells rm_X2_orders.slots A) (wl kc ad X B hf ex) 4 [some (.ref (ad 0)), some (.int (nI (cnt X k))), some (.int (nI k))] [] := by
    intro d
    induction d with
    | zero =>
      intro k hk
      have hn := hO.n
      refine x_iload2 M dX2_orders_4 ?_
      refine x_aload0 M dX2_orders_5 ?_
      refine gX3 M TB kw_90 dX2_orders_6 ?_
      refine n_icmp_ge (tgt := 34) M (by first | omega | exact hB _ _) (by first | omega | exact hB _ _) dX2_orders_9 (by decide) (fun q9 => ?_) (fun q9 => absurd q9 (by omega))
      refine x_iload1 M dX2_orders_34 ?_
      exact x_iret M hr hlk dX2_orders_35 ⟨by decide, by decide⟩ (by rw [show k = X 0 0 by omega]) rfl
    | succ d ih =>
      intro k hk
      have hn := hO.n
      refine x_iload2 M dX2_orders_4 ?_
      refine x_aload0 M dX2_orders_5 ?_
      refine gX3 M TB kw_90 dX2_orders_6 ?_
      refine n_icmp_ge (tgt := 34) M (by first | omega | exact hB _ _) (by first | omega | exact hB _ _) dX2_orders_9 (by decide) (fun q9 => absurd q9 (by omega)) (fun q9 => ?_)
      refine x_aload0 M dX2_orders_12 ?_
      refine gX1 M TB kw_88 dX2_orders_13 ?_
      refine x_iload2 M dX2_orders_16 ?_
      refine aL M TB (by omega) dX2_orders_17 ?_
      refine gL4 M TB (by omega) kw_63 dX2_orders_18 ?_
      refine x_iconst (v := (-1)) M dX2_orders_21 (by decide +kernel) ?_
      refine e_icmp_eq (tgt := 28) M (by first | omega | exact hB _ _) dX2_orders_22 (by decide) (fun q22 => ?_) (fun q22 => ?_)
      · refine n_inc2 M dX2_orders_28 ?_
        refine x_goto (tgt := 4) M dX2_orders_31 (by decide) ?_
        have h9 := ih (k + 1) (by omega)
        rw [cnt_z q22] at h9
        exact h9
      · refine n_inc1 M dX2_orders_25 ?_
        refine n_inc2 M dX2_orders_28 ?_
        refine x_goto (tgt := 4) M dX2_orders_31 (by decide) ?_
        have h9 := ih (k + 1) (by omega)
        rw [cnt_o q22] at h9
        exact h9
  refine x_iconst (v := nI 0) M dX2_orders_0 (by decide +kernel) ?_
  refine x_istore1 M dX2_orders_1 ?_
  refine x_iconst (v := nI 0) M dX2_orders_2 (by decide +kernel) ?_
  refine x_istore2 M dX2_orders_3 ?_
  exact loop (X 0 0) 0 (by omega)
theorem mv_X2_lies : x_MV yX2_lies cX2_lies 3 (some FieldType.int) 0 := ⟨kw_308, kw_9, ⟨by decide +kernel, by decide +kernel⟩, by decide +kernel, kw_306, kw_307⟩
abbrev rm_X2_lies : Room := { frames := 0, cells := 0, slots := 0, locals := 0 }
set_option maxRecDepth 20000 in
set_option maxHeartbeats 2000000 in
theorem c_lies (hO : Ok X) : x_Ret l D kc A yX2_lies cX2_lies 3 (some FieldType.int) rm_X2_lies [.ref (ad 0)] (wl kc ad X B hf ex) (some (.int (lie X (X 0 0)))) (wl kc ad X B hf ex) := by
  refine x_ret_of RX2 (by decide +kernel) rfl [some (.ref (ad 0)), none, none] (Nat.le_of_ble_eq_true rfl) rfl rfl ?_
  intro p e s m args below meth c M hr hlk hnm TB hAA
  have hB : ∀ r i, X r i < 2 ^ 31 := fun r i => Nat.lt_trans (hO.bd r i) (by decide)
  have loop : ∀ (d k : Nat), k + d = X 0 0 → x_X p l e rm_X2_lies s m args below meth c D A 3 0 0 (MQ below (x_Qc D A (some (.int (lie X (X 0 0)))) (wl kc ad X B hf ex)) args s rm_X2_lies.cells rm_X2_lies.slots A) (wl kc ad X B hf ex) 4 [some (.ref (ad 0)), some (.int (lie X k)), some (.int (nI k))] [] := by
    intro d
    induction d with
    | zero =>
      intro k hk
      have hn := hO.n
      have hwk := hO.w k
      refine x_iload2 M dX2_lies_4 ?_
      refine x_aload0 M dX2_lies_5 ?_
      refine gX3 M TB kw_90 dX2_lies_6 ?_
      refine n_icmp_ge (tgt := 50) M (by first | omega | exact hB _ _) (by first | omega | exact hB _ _) dX2_lies_9 (by decide) (fun q9 => ?_) (fun q9 => absurd q9 (by omega))
      refine x_iload1 M dX2_lies_50 ?_
      exact x_iret M hr hlk dX2_lies_51 ⟨by decide, by decide⟩ (by rw [show k = X 0 0 by omega]) rfl
    | succ d ih =>
      intro k hk
      have hn := hO.n
      have hwk := hO.w k
      refine x_iload2 M dX2_lies_4 ?_
      refine x_aload0 M dX2_lies_5 ?_
      refine gX3 M TB kw_90 dX2_lies_6 ?_
      refine n_icmp_ge (tgt := 50) M (by first | omega | exact hB _ _) (by first | omega | exact hB _ _) dX2_lies_9 (by decide) (fun q9 => absurd q9 (by omega)) (fun q9 => ?_)
      refine x_aload0 M dX2_lies_12 ?_
      refine gX1 M TB kw_88 dX2_lies_13 ?_
      refine x_iload2 M dX2_lies_16 ?_
      refine aL M TB (by omega) dX2_lies_17 ?_
      refine gL1 M TB (by omega) kw_57 dX2_lies_18 ?_
      refine x_aload0 M dX2_lies_21 ?_
      refine gX0 M TB kw_87 dX2_lies_22 ?_
      refine x_aload0 M dX2_lies_25 ?_
      refine gX1 M TB kw_88 dX2_lies_26 ?_
      refine x_iload2 M dX2_lies_29 ?_
      refine aL M TB (by omega) dX2_lies_30 ?_
      refine gL0 M TB (by omega) kw_55 dX2_lies_31 ?_
      refine aP M TB (by omega) dX2_lies_34 ?_
      refine n_icmp_ge (tgt := 44) M (by first | omega | exact hB _ _) (by first | omega | exact hB _ _) dX2_lies_35 (by decide) (fun q35 => ?_) (fun q35 => ?_)
      · refine n_inc2 M dX2_lies_44 ?_
        refine x_goto (tgt := 4) M dX2_lies_47 (by decide) ?_
        have h9 := ih (k + 1) (by omega)
        rw [lie_n (by omega)] at h9
        exact h9
      · refine x_iload1 M dX2_lies_38 ?_
        refine x_iconst (v := nI 1) M dX2_lies_39 (by decide +kernel) ?_
        refine x_iload2 M dX2_lies_40 ?_
        refine x_ishl M dX2_lies_41 rfl ?_
        refine x_ior M dX2_lies_42 rfl ?_
        refine x_istore1 M dX2_lies_43 ?_
        refine n_inc2 M dX2_lies_44 ?_
        refine x_goto (tgt := 4) M dX2_lies_47 (by decide) ?_
        have h9 := ih (k + 1) (by omega)
        rw [lie_y q35] at h9
        exact h9
  refine x_iconst (v := nI 0) M dX2_lies_0 (by decide +kernel) ?_
  refine x_istore1 M dX2_lies_1 ?_
  refine x_iconst (v := nI 0) M dX2_lies_2 (by decide +kernel) ?_
  refine x_istore2 M dX2_lies_3 ?_
  exact loop (X 0 0) 0 (by omega)
theorem mv_X2_asked : x_MV yX2_asked cX2_asked 3 (some FieldType.int) 1 := ⟨kw_129, kw_9, ⟨by decide +kernel, by decide +kernel⟩, by decide +kernel, kw_127, kw_128⟩
abbrev rm_X2_asked : Room := { frames := 2, cells := 0, slots := 0, locals := 44 }
set_option maxRecDepth 20000 in
set_option maxHeartbeats 2000000 in
theorem c_asked (hO : Ok X) {j : Nat} (hj : j < 12) : x_Ret l D kc A yX2_asked cX2_asked 3 (some FieldType.int) rm_X2_asked [.ref (ad 0), .int (nI j)] (wl kc ad X B hf ex) (some (.int (nI (min (X 1 j) (min (lnow X j (X 0 0)) (lhr X j 60)))))) (wl kc ad X B hf ex) := by
  refine x_ret_of RX2 (by decide +kernel) rfl [some (.ref (ad 0)), some (.int (nI j)), none] (Nat.le_of_ble_eq_true rfl) rfl rfl ?_
  intro p e s m args below meth c M hr hlk hnm TB hAA
  have hB : ∀ r i, X r i < 2 ^ 31 := fun r i => Nat.lt_trans (hO.bd r i) (by decide)
  have h1 := lnow_le X j (X 0 0)
  have h2 := lhr_le X j 60
  refine x_iload1 M dX2_asked_0 ?_
  refine x_callS0 M TB hAA mv_X2_needWare kw_130 dX2_asked_1 (c_needWare hj) rfl ⟨by decide, by decide⟩ ⟨by decide, by decide⟩ (Nat.le_of_ble_eq_true rfl) ?_
  refine x_aload0 M dX2_asked_4 ?_
  refine x_iload1 M dX2_asked_5 ?_
  refine x_callV0 M TB hAA mv_X2_leastShownNow kw_201 dX2_asked_6 (c_leastShownNow hO.bd hO.n hj) rfl wl_X rfl rfl ⟨by decide, by decide⟩ ⟨by decide, by decide⟩ (Nat.le_of_ble_eq_true rfl) ?_
  refine x_aload0 M dX2_asked_9 ?_
  refine gX2 M TB kw_89 dX2_asked_10 ?_
  refine x_iload1 M dX2_asked_13 ?_
  refine x_callV0 M TB hAA mv_X1_leastOfLastHour kw_208 dX2_asked_14 (c_leastOfLastHour hO.bd hj) rfl wl_Y rfl rfl ⟨by decide, by decide⟩ ⟨by decide, by decide⟩ (Nat.le_of_ble_eq_true rfl) ?_
  refine x_min M (by first | omega | exact hB _ _) (by first | omega | exact hB _ _) kw_205 ⟨by decide, by decide⟩ ⟨by decide, by decide⟩ (Nat.le_of_ble_eq_true rfl) dX2_asked_17 ?_
  refine x_istore2 M dX2_asked_20 ?_
  refine x_aload0 M dX2_asked_21 ?_
  refine gX0 M TB kw_87 dX2_asked_22 ?_
  refine x_iload1 M dX2_asked_25 ?_
  refine aP M TB (by omega) dX2_asked_26 ?_
  refine x_iload2 M dX2_asked_27 ?_
  refine x_min M (by first | omega | exact hB _ _) (by first | omega | exact hB _ _) kw_205 ⟨by decide, by decide⟩ ⟨by decide, by decide⟩ (Nat.le_of_ble_eq_true rfl) dX2_asked_28 ?_
  exact x_iret M hr hlk dX2_asked_31 ⟨by decide, by decide⟩ rfl rfl
theorem mv_X2_leastEver : x_MV yX2_leastEver cX2_leastEver 3 (some FieldType.int) 1 := ⟨kw_216, kw_9, ⟨by decide +kernel, by decide +kernel⟩, by decide +kernel, kw_214, kw_215⟩
abbrev rm_X2_leastEver : Room := { frames := 2, cells := 0, slots := 0, locals := 44 }
set_option maxRecDepth 20000 in
set_option maxHeartbeats 2000000 in
theorem c_leastEver (hO : Ok X) {j : Nat} (hj : j < 12) : x_Ret l D kc A yX2_leastEver cX2_leastEver 3 (some FieldType.int) rm_X2_leastEver [.ref (ad 0), .int (nI j)] (wl kc ad X B hf ex) (some (.int (em (min (lnow X j (X 0 0)) (X 11 j))))) (wl kc ad X B hf ex) := by
  refine x_ret_of RX2 (by decide +kernel) rfl [some (.ref (ad 0)), some (.int (nI j)), none] (Nat.le_of_ble_eq_true rfl) rfl rfl ?_
  intro p e s m args below meth c M hr hlk hnm TB hAA
  have hB : ∀ r i, X r i < 2 ^ 31 := fun r i => Nat.lt_trans (hO.bd r i) (by decide)
  have h1 := lnow_le X j (X 0 0)
  refine x_iload1 M dX2_leastEver_0 ?_
  refine x_callS0 M TB hAA mv_X2_needWare kw_130 dX2_leastEver_1 (c_needWare hj) rfl ⟨by decide, by decide⟩ ⟨by decide, by decide⟩ (Nat.le_of_ble_eq_true rfl) ?_
  refine x_aload0 M dX2_leastEver_4 ?_
  refine x_iload1 M dX2_leastEver_5 ?_
  refine x_callV0 M TB hAA mv_X2_leastShownNow kw_201 dX2_leastEver_6 (c_leastShownNow hO.bd hO.n hj) rfl wl_X rfl rfl ⟨by decide, by decide⟩ ⟨by decide, by decide⟩ (Nat.le_of_ble_eq_true rfl) ?_
  refine x_aload0 M dX2_leastEver_9 ?_
  refine gX2 M TB kw_89 dX2_leastEver_10 ?_
  refine x_iload1 M dX2_leastEver_13 ?_
  refine x_callV0 M TB hAA mv_X1_leastOfAllTime kw_217 dX2_leastEver_14 (c_leastOfAllTime hj) rfl wl_Y rfl rfl ⟨by decide, by decide⟩ ⟨by decide, by decide⟩ (Nat.le_of_ble_eq_true rfl) ?_
  refine x_min M (by first | omega | exact hB _ _) (by first | omega | exact hB _ _) kw_205 ⟨by decide, by decide⟩ ⟨by decide, by decide⟩ (Nat.le_of_ble_eq_true rfl) dX2_leastEver_17 ?_
  refine x_istore2 M dX2_leastEver_20 ?_
  refine x_iload2 M dX2_leastEver_21 ?_
  refine x_sipush (v := nI 10000) M dX2_leastEver_22 (by decide +kernel) ?_
  refine n_icmp_ne (tgt := 32) M (by first | omega | exact hB _ _) (by first | omega | exact hB _ _) dX2_leastEver_25 (by decide) (fun q25 => ?_) (fun q25 => ?_)
  · refine x_iload2 M dX2_leastEver_32 ?_
    exact x_iret M hr hlk dX2_leastEver_33 ⟨by decide, by decide⟩ (by rw [em, if_neg q25]) rfl
  · refine x_iconst (v := (-1)) M dX2_leastEver_28 (by decide +kernel) ?_
    refine x_goto (tgt := 33) M dX2_leastEver_29 (by decide) ?_
    exact x_iret M hr hlk dX2_leastEver_33 ⟨by decide, by decide⟩ (by rw [em, if_pos q25]) rfl
theorem mv_X2_setPrice : x_MV yX2_setPrice cX2_setPrice 5 (some FieldType.int) 2 := ⟨kw_281, kw_9, ⟨by decide +kernel, by decide +kernel⟩, by decide +kernel, kw_279, kw_280⟩
abbrev rm_X2_setPrice : Room := { frames := 1, cells := 0, slots := 0, locals := 22 }
set_option maxRecDepth 20000 in
set_option maxHeartbeats 2000000 in
theorem c_setPrice0 (hO : Ok X) {j v : Nat} (hj : j < 12) (hv : v ≤ 9999) (he : X 1 j = v) : x_Ret l D kc A yX2_setPrice cX2_setPrice 5 (some FieldType.int) rm_X2_setPrice [.ref (ad 0), .int (nI j), .int (nI v)] (wl kc ad X B hf ex) (some (.int (nI 0))) (wl kc ad X B hf ex) := by
  refine x_ret_of RX2 (by decide +kernel) rfl [some (.ref (ad 0)), some (.int (nI j)), some (.int (nI v)), none, none] (Nat.le_of_ble_eq_true rfl) rfl rfl ?_
  intro p e s m args below meth c M hr hlk hnm TB hAA
  have hB : ∀ r i, X r i < 2 ^ 31 := fun r i => Nat.lt_trans (hO.bd r i) (by decide)
  refine x_iload1 M dX2_setPrice_0 ?_
  refine x_callS0 M TB hAA mv_X2_needWare kw_130 dX2_setPrice_1 (c_needWare hj) rfl ⟨by decide, by decide⟩ ⟨by decide, by decide⟩ (Nat.le_of_ble_eq_true rfl) ?_
  refine x_iload2 M dX2_setPrice_4 ?_
  refine x_iconst (v := nI 0) M dX2_setPrice_5 (by decide +kernel) ?_
  refine x_sipush (v := nI 9999) M dX2_setPrice_6 (by decide +kernel) ?_
  refine x_callS0 M TB hAA mv_X2_needWithin kw_282 dX2_setPrice_9 (c_needWithin (Nat.zero_le _) hv (by decide)) rfl ⟨by decide, by decide⟩ ⟨by decide, by decide⟩ (Nat.le_of_ble_eq_true rfl) ?_
  refine x_aload0 M dX2_setPrice_12 ?_
  refine gX0 M TB kw_87 dX2_setPrice_13 ?_
  refine x_iload1 M dX2_setPrice_16 ?_
  refine aP M TB (by omega) dX2_setPrice_17 ?_
  refine x_iload2 M dX2_setPrice_18 ?_
  refine n_icmp_ne (tgt := 24) M (by first | omega | exact hB _ _) (by first | omega | exact hB _ _) dX2_setPrice_19 (by decide) (fun q19 => absurd he q19) (fun q19 => ?_)
  refine x_iconst (v := nI 0) M dX2_setPrice_22 (by decide +kernel) ?_
  exact x_iret M hr hlk dX2_setPrice_23 ⟨by decide, by decide⟩ rfl rfl
set_option maxRecDepth 20000 in
set_option maxHeartbeats 2000000 in
theorem c_setPrice (hO : Ok X) (hm : X 0 2 + 12 < 2 ^ 30) {j v : Nat} (hj : j < 12) (hv : v ≤ 9999) (he : X 1 j ≠ v) : x_Ret l D kc A yX2_setPrice cX2_setPrice 5 (some FieldType.int) rm_X2_setPrice [.ref (ad 0), .int (nI j), .int (nI v)] (wl kc ad X B hf ex) (some (.int (nI (spl (up X 1 j v) j (X 0 0)).2))) (wl kc ad ((spl (up X 1 j v) j (X 0 0)).1) B hf ex) := by
  refine x_ret_of RX2 (by decide +kernel) rfl [some (.ref (ad 0)), some (.int (nI j)), some (.int (nI v)), none, none] (Nat.le_of_ble_eq_true rfl) rfl rfl ?_
  intro p e s m args below meth c M hr hlk hnm TB hAA
  have hB : ∀ r i, X r i < 2 ^ 31 := fun r i => Nat.lt_trans (hO.bd r i) (by decide)
  have hn := hO.n
  have hY : Bd (up X 1 j v) := Bd_up hO.bd (by omega)
  have loop : ∀ (d k : Nat), k + d = X 0 0 → x_X p l e rm_X2_setPrice s m args below meth c D A 5 0 0 (MQ below (x_Qc D A (some (.int (nI (spl (up X 1 j v) j (X 0 0)).2))) (wl kc ad ((spl (up X 1 j v) j (X 0 0)).1) B hf ex)) args s rm_X2_setPrice.cells rm_X2_setPrice.slots A) (wl kc ad ((spl (up X 1 j v) j k).1) B hf ex) 36 [some (.ref (ad 0)), some (.int (nI j)), some (.int (nI v)), some (.int (nI (spl (up X 1 j v) j k).2)), some (.int (nI k))] [] := by
    intro d
    induction d with
    | zero =>
      intro k hk
      obtain ⟨hs1, hs2, hs3, hs4, hs5, hs6⟩ := spl_ok hY hm j k (by omega)
      have hB : ∀ r i, (spl (up X 1 j v) j k).1 r i < 2 ^ 31 := fun r i => Nat.lt_trans (hs1 r i) (by decide)
      have e0 : (up X 1 j v) 0 0 = X 0 0 := rfl
      refine x_iload4 M dX2_setPrice_36 ?_
      refine x_aload0 M dX2_setPrice_38 ?_
      refine gX3 M TB kw_90 dX2_setPrice_39 ?_
      refine n_icmp_ge (tgt := 79) M (by first | omega | exact hB _ _) (by first | omega | exact hB _ _) dX2_setPrice_42 (by decide) (fun q42 => ?_) (fun q42 => absurd q42 (by omega))
      refine x_iload3 M dX2_setPrice_79 ?_
      exact x_iret M hr hlk dX2_setPrice_80 ⟨by decide, by decide⟩ (by rw [show k = X 0 0 by omega]) (by rw [show k = X 0 0 by omega])
    | succ d ih =>
      intro k hk
      obtain ⟨hs1, hs2, hs3, hs4, hs5, hs6⟩ := spl_ok hY hm j k (by omega)
      have hB : ∀ r i, (spl (up X 1 j v) j k).1 r i < 2 ^ 31 := fun r i => Nat.lt_trans (hs1 r i) (by decide)
      have e0 : (up X 1 j v) 0 0 = X 0 0 := rfl
      refine x_iload4 M dX2_setPrice_36 ?_
      refine x_aload0 M dX2_setPrice_38 ?_
      refine gX3 M TB kw_90 dX2_setPrice_39 ?_
      refine n_icmp_ge (tgt := 79) M (by first | omega | exact hB _ _) (by first | omega | exact hB _ _) dX2_setPrice_42 (by decide) (fun q42 => absurd q42 (by omega)) (fun q42 => ?_)
      refine x_aload0 M dX2_setPrice_45 ?_
      refine gX1 M TB kw_88 dX2_setPrice_46 ?_
      refine x_iload4 M dX2_setPrice_49 ?_
      refine aL M TB (by omega) dX2_setPrice_51 ?_
      refine gL0 M TB (by omega) kw_55 dX2_setPrice_52 ?_
      refine x_iload1 M dX2_setPrice_55 ?_
      refine n_icmp_ne (tgt := 73) M (by first | omega | exact hB _ _) (by first | omega | exact hB _ _) dX2_setPrice_56 (by decide) (fun q56 => ?_) (fun q56 => ?_)
      · refine n_inc4 M dX2_setPrice_73 ?_
        refine x_goto (tgt := 36) M dX2_setPrice_76 (by decide) ?_
        have h9 := ih (k + 1) (by omega)
        rw [spl_m (fun h => q56 ((hs5 k).trans h))] at h9
        exact h9
      · refine x_aload0 M dX2_setPrice_59 ?_
        refine x_aload0 M dX2_setPrice_60 ?_
        refine gX1 M TB kw_88 dX2_setPrice_61 ?_
        refine x_iload4 M dX2_setPrice_64 ?_
        refine aL M TB (by omega) dX2_setPrice_66 ?_
        refine x_callV0 M TB hAA mv_X2_giveOrder kw_301 dX2_setPrice_67 (c_giveOrder (X := (spl (up X 1 j v) j k).1) hs1 (i := k) (by omega)) rfl wl_X rfl rfl ⟨by decide, by decide⟩ ⟨by decide, by decide⟩ (Nat.le_of_ble_eq_true rfl) ?_
        refine n_inc3 M dX2_setPrice_70 ?_
        refine n_inc4 M dX2_setPrice_73 ?_
        refine x_goto (tgt := 36) M dX2_setPrice_76 (by decide) ?_
        have h9 := ih (k + 1) (by omega)
        rw [spl_p ((hs5 k).symm.trans q56)] at h9
        exact h9
  refine x_iload1 M dX2_setPrice_0 ?_
  refine x_callS0 M TB hAA mv_X2_needWare kw_130 dX2_setPrice_1 (c_needWare hj) rfl ⟨by decide, by decide⟩ ⟨by decide, by decide⟩ (Nat.le_of_ble_eq_true rfl) ?_
  refine x_iload2 M dX2_setPrice_4 ?_
  refine x_iconst (v := nI 0) M dX2_setPrice_5 (by decide +kernel) ?_
  refine x_sipush (v := nI 9999) M dX2_setPrice_6 (by decide +kernel) ?_
  refine x_callS0 M TB hAA mv_X2_needWithin kw_282 dX2_setPrice_9 (c_needWithin (Nat.zero_le _) hv (by decide)) rfl ⟨by decide, by decide⟩ ⟨by decide, by decide⟩ (Nat.le_of_ble_eq_true rfl) ?_
  refine x_aload0 M dX2_setPrice_12 ?_
  refine gX0 M TB kw_87 dX2_setPrice_13 ?_
  refine x_iload1 M dX2_setPrice_16 ?_
  refine aP M TB (by omega) dX2_setPrice_17 ?_
  refine x_iload2 M dX2_setPrice_18 ?_
  refine n_icmp_ne (tgt := 24) M (by first | omega | exact hB _ _) (by first | omega | exact hB _ _) dX2_setPrice_19 (by decide) (fun q19 => ?_) (fun q19 => absurd q19 he)
  refine x_aload0 M dX2_setPrice_24 ?_
  refine gX0 M TB kw_87 dX2_setPrice_25 ?_
  refine x_iload1 M dX2_setPrice_28 ?_
  refine x_iload2 M dX2_setPrice_29 ?_
  refine sP M TB (by omega) dX2_setPrice_30 ?_
  refine x_iconst (v := nI 0) M dX2_setPrice_31 (by decide +kernel) ?_
  refine x_istore3 M dX2_setPrice_32 ?_
  refine x_iconst (v := nI 0) M dX2_setPrice_33 (by decide +kernel) ?_
  refine x_istore4 M dX2_setPrice_34 ?_
  exact loop (X 0 0) 0 (by omega)
end XM
