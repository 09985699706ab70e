/-! THE REFERENCE's METHODS, leaves -/
section XM
variable {l : Launch} {D : va_G} {kc : Nat → ClassId} {A : Nat → Prop} {ad : Nat → Nat} {X B : St} {th : Nat} {ov : Int64} {hw : Nat}
theorem not_bad {n : Nat} (hn : n < 2 ^ 30) {x : Int32} (h : bad (n + 1) x) : ¬ (¬ x < nI 0 ∧ ¬ nI n < x) := fun q => by
  have h0 : ¬ x < 0 := by rw [← nI_0]; exact q.1
  obtain ⟨j, h1, h2⟩ := nI_of2 (M := nI n) (nI_toInt (by omega)) h0 (Int32.not_lt.mp q.2)
  exact h ⟨h0, by rw [h2]; exact nI_lt (by omega) (by omega)⟩
theorem not_bad2 {n : Nat} (hn : n < 2 ^ 30) {x : Int32} (h : bad n x) : ¬ (¬ x < nI 0 ∧ ¬ nI n - nI 1 < x) := fun q => by
  cases n with
  | zero =>
    have h0 : ¬ x < 0 := by rw [← nI_0]; exact q.1
    have h2 : (nI 0 - nI 1) = -1 := by decide
    rw [h2] at q
    obtain ⟨j, h3, h4⟩ := nI_of h0
    refine q.2 ?_
    rw [h4, Int32.lt_iff_toInt_lt, nI_toInt h3, show ((-1 : Int32)).toInt = -1 by decide]
    omega
  | succ n =>
    rw [pk_sub (by omega), Nat.add_sub_cancel] at q
    exact not_bad (by omega) h q
theorem is_in {j n : Nat} (hj : j ≤ n) (hn : n < 2 ^ 31) : ¬ nI j < nI 0 ∧ ¬ nI n < nI j := ⟨nI_nlt (by omega) (by omega), nI_nlt hj hn⟩
theorem mv_X3_thrown : x_MV yX3_thrown cX3_thrown 1 (some FieldType.int) 0 := ⟨kw_464, kw_21, ⟨by decide +kernel, by decide +kernel⟩, by decide +kernel, kw_462, kw_463⟩
abbrev rm_X3_thrown : Room := { frames := 0, cells := 0, slots := 0, locals := 0 }
set_option maxRecDepth 20000 in
set_option maxHeartbeats 2000000 in
theorem m_thrown  : x_Ret l D kc A yX3_thrown cX3_thrown 1 (some FieldType.int) rm_X3_thrown [.ref (ad 6)] (wl kc ad X (B) (th) ov (hw)) (some (.int (nI th))) (wl kc ad X (B) (th) ov (hw)) := by
  refine x_ret_of RX3 (by decide +kernel) rfl [some (.ref (ad 6))] (Nat.le_of_ble_eq_true rfl) rfl rfl ?_
  intro p e s m args below meth c M hr hlk hnm TB hAA
  refine x_aload0 M dX3_thrown_0 ?_
  refine gM0 M TB kw_415 dX3_thrown_1 ?_
  exact x_iret M hr hlk dX3_thrown_4 ⟨by decide, by decide⟩ rfl rfl
theorem mv_X3_holds : x_MV yX3_holds cX3_holds 2 (some FieldType.boolean) 1 := ⟨kw_478, kw_21, ⟨by decide +kernel, by decide +kernel⟩, by decide +kernel, kw_477, kw_8⟩
abbrev rm_X3_holds : Room := { frames := 0, cells := 0, slots := 0, locals := 0 }
set_option maxRecDepth 20000 in
set_option maxHeartbeats 2000000 in
theorem m_holds0  : x_Ret l D kc A yX3_holds cX3_holds 2 (some FieldType.boolean) rm_X3_holds [.ref (ad 6), .int (nI 0)] (wl kc ad X (B) (th) ov (hw)) (some (.int (nI 1))) (wl kc ad X (B) (0) ov (hw)) := by
  refine x_ret_of RX3 (by decide +kernel) rfl [some (.ref (ad 6)), some (.int (nI 0))] (Nat.le_of_ble_eq_true rfl) rfl rfl ?_
  intro p e s m args below meth c M hr hlk hnm TB hAA
  refine x_aload0 M dX3_holds_0 ?_
  refine x_iload1 M dX3_holds_1 ?_
  refine pM0 M TB kw_415 dX3_holds_2 ?_
  refine x_iload1 M dX3_holds_5 ?_
  refine n_if_ne (tgt := 13) M (by first | omega | exact hB _ _) dX3_holds_6 (by decide) (fun q6 => absurd rfl q6) (fun q6 => ?_)
  refine x_iconst (v := nI 1) M dX3_holds_9 (by decide +kernel) ?_
  refine x_goto (tgt := 14) M dX3_holds_10 (by decide) ?_
  exact x_zret M hr hlk dX3_holds_14 ⟨by decide, by decide⟩ (Or.inr rfl) rfl rfl
set_option maxRecDepth 20000 in
set_option maxHeartbeats 2000000 in
theorem m_holds1 {t : Nat} (h0 : 0 < t) (h2 : t ≤ 2) : x_Ret l D kc A yX3_holds cX3_holds 2 (some FieldType.boolean) rm_X3_holds [.ref (ad 6), .int (nI t)] (wl kc ad X (B) (th) ov (hw)) (some (.int (nI 0))) (wl kc ad X (B) (t) ov (hw)) := by
  refine x_ret_of RX3 (by decide +kernel) rfl [some (.ref (ad 6)), some (.int (nI t))] (Nat.le_of_ble_eq_true rfl) rfl rfl ?_
  intro p e s m args below meth c M hr hlk hnm TB hAA
  refine x_aload0 M dX3_holds_0 ?_
  refine x_iload1 M dX3_holds_1 ?_
  refine pM0 M TB kw_415 dX3_holds_2 ?_
  refine x_iload1 M dX3_holds_5 ?_
  refine n_if_ne (tgt := 13) M (by first | omega | exact hB _ _) dX3_holds_6 (by decide) (fun q6 => ?_) (fun q6 => absurd h0 (by omega))
  refine x_iconst (v := nI 0) M dX3_holds_13 (by decide +kernel) ?_
  exact x_zret M hr hlk dX3_holds_14 ⟨by decide, by decide⟩ (Or.inl rfl) rfl rfl
theorem mv_X3_isIn : x_MS yX3_isIn cX3_isIn 3 (some FieldType.boolean) 3 := ⟨kw_474, kw_21, ⟨by decide +kernel, by decide +kernel⟩, by decide +kernel, kw_473⟩
abbrev rm_X3_isIn : Room := { frames := 0, cells := 0, slots := 0, locals := 0 }
set_option maxRecDepth 20000 in
set_option maxHeartbeats 2000000 in
theorem m_isIn {v lo hi : Int32} : x_Ret l D kc A yX3_isIn cX3_isIn 3 (some FieldType.boolean) rm_X3_isIn [.int v, .int lo, .int hi] (wl kc ad X (B) (th) ov (hw)) (some (.int (if ¬ v < lo ∧ ¬ hi < v then 1 else 0 : Int32))) (wl kc ad X (B) (th) ov (hw)) := by
  refine x_ret_of RX3 (by decide +kernel) rfl [some (.int v), some (.int lo), some (.int hi)] (Nat.le_of_ble_eq_true rfl) rfl rfl ?_
  intro p e s m args below meth c M hr hlk hnm TB hAA
  refine x_iload0 M dX3_isIn_0 ?_
  refine x_iload1 M dX3_isIn_1 ?_
  refine x_icmp_lt (tgt := 14) M dX3_isIn_2 (by decide) (fun q2 => ?_) (fun q2 => ?_)
  · refine x_iconst (v := nI 0) M dX3_isIn_14 (by decide +kernel) ?_
    exact x_zret M hr hlk dX3_isIn_15 ⟨by decide, by decide⟩ (Or.inl rfl) (by rw [if_neg (fun h => h.1 q2)]; rfl) rfl
  · refine x_iload0 M dX3_isIn_5 ?_
    refine x_iload2 M dX3_isIn_6 ?_
    refine x_icmp_gt (tgt := 14) M dX3_isIn_7 (by decide) (fun q7 => ?_) (fun q7 => ?_)
    · refine x_iconst (v := nI 0) M dX3_isIn_14 (by decide +kernel) ?_
      exact x_zret M hr hlk dX3_isIn_15 ⟨by decide, by decide⟩ (Or.inl rfl) (by rw [if_neg (fun h => h.2 q7)]; rfl) rfl
    · refine x_iconst (v := nI 1) M dX3_isIn_10 (by decide +kernel) ?_
      refine x_goto (tgt := 15) M dX3_isIn_11 (by decide) ?_
      exact x_zret M hr hlk dX3_isIn_15 ⟨by decide, by decide⟩ (Or.inr rfl) (by rw [if_pos ⟨q2, q7⟩]; rfl) rfl
theorem mv_X3_isWare : x_MS yX3_isWare cX3_isWare 1 (some FieldType.boolean) 1 := ⟨kw_471, kw_21, ⟨by decide +kernel, by decide +kernel⟩, by decide +kernel, kw_470⟩
abbrev rm_X3_isWare : Room := { frames := 1, cells := 0, slots := 0, locals := 22 }
set_option maxRecDepth 20000 in
set_option maxHeartbeats 2000000 in
theorem m_isWare1 {j : Nat} (hj : j < 12) : x_Ret l D kc A yX3_isWare cX3_isWare 1 (some FieldType.boolean) rm_X3_isWare [.int (nI j)] (wl kc ad X (B) (th) ov (hw)) (some (.int (nI 1))) (wl kc ad X (B) (th) ov (hw)) := by
  refine x_ret_of RX3 (by decide +kernel) rfl [some (.int (nI j))] (Nat.le_of_ble_eq_true rfl) rfl rfl ?_
  intro p e s m args below meth c M hr hlk hnm TB hAA
  refine x_iload0 M dX3_isWare_0 ?_
  refine x_iconst (v := nI 0) M dX3_isWare_1 (by decide +kernel) ?_
  refine x_bipush (v := nI 11) M dX3_isWare_2 (by decide +kernel) ?_
  refine x_callS0 M TB hAA mv_X3_isIn kw_472 dX3_isWare_4 m_isIn rfl ⟨by decide, by decide⟩ ⟨by decide, by decide⟩ (Nat.le_of_ble_eq_true rfl) ?_
  exact x_zret M hr hlk dX3_isWare_7 ⟨by decide, by decide⟩ (Or.inr (if_pos (is_in (by omega) (by decide)))) (by rw [if_pos (is_in (by omega) (by decide))]; rfl) rfl
set_option maxRecDepth 20000 in
set_option maxHeartbeats 2000000 in
theorem m_isWare0 {x : Int32} (h : bad 12 x) : x_Ret l D kc A yX3_isWare cX3_isWare 1 (some FieldType.boolean) rm_X3_isWare [.int x] (wl kc ad X (B) (th) ov (hw)) (some (.int (nI 0))) (wl kc ad X (B) (th) ov (hw)) := by
  refine x_ret_of RX3 (by decide +kernel) rfl [some (.int x)] (Nat.le_of_ble_eq_true rfl) rfl rfl ?_
  intro p e s m args below meth c M hr hlk hnm TB hAA
  refine x_iload0 M dX3_isWare_0 ?_
  refine x_iconst (v := nI 0) M dX3_isWare_1 (by decide +kernel) ?_
  refine x_bipush (v := nI 11) M dX3_isWare_2 (by decide +kernel) ?_
  refine x_callS0 M TB hAA mv_X3_isIn kw_472 dX3_isWare_4 m_isIn rfl ⟨by decide, by decide⟩ ⟨by decide, by decide⟩ (Nat.le_of_ble_eq_true rfl) ?_
  exact x_zret M hr hlk dX3_isWare_7 ⟨by decide, by decide⟩ (Or.inl (if_neg (not_bad (n := 11) (by decide) h))) (by rw [if_neg (not_bad (n := 11) (by decide) h)]; rfl) rfl
theorem mv_X3_isLabel : x_MV yX3_isLabel cX3_isLabel 2 (some FieldType.boolean) 1 := ⟨kw_498, kw_21, ⟨by decide +kernel, by decide +kernel⟩, by decide +kernel, kw_497, kw_10⟩
abbrev rm_X3_isLabel : Room := { frames := 1, cells := 0, slots := 0, locals := 22 }
set_option maxRecDepth 20000 in
set_option maxHeartbeats 2000000 in
theorem m_isLabel1 (hO : Ok B) {j : Nat} (hj : j < B 0 0) : x_Ret l D kc A yX3_isLabel cX3_isLabel 2 (some FieldType.boolean) rm_X3_isLabel [.ref (ad 6), .int (nI j)] (wl kc ad X (B) (th) ov (hw)) (some (.int (nI 1))) (wl kc ad X (B) (th) ov (hw)) := by
  refine x_ret_of RX3 (by decide +kernel) rfl [some (.ref (ad 6)), some (.int (nI j))] (Nat.le_of_ble_eq_true rfl) rfl rfl ?_
  intro p e s m args below meth c M hr hlk hnm TB hAA
  have hB : ∀ r i, B r i < 2 ^ 31 := fun r i => Nat.lt_trans (hO.bd r i) (by decide)
  have hn := hO.n
  refine x_iload1 M dX3_isLabel_0 ?_
  refine x_iconst (v := nI 0) M dX3_isLabel_1 (by decide +kernel) ?_
  refine x_aload0 M dX3_isLabel_2 ?_
  refine gM4 M TB kw_419 dX3_isLabel_3 ?_
  refine x_iconst (v := nI 1) M dX3_isLabel_6 (by decide +kernel) ?_
  refine n_sub M (by omega) dX3_isLabel_7 ?_
  refine x_callS0 M TB hAA mv_X3_isIn kw_472 dX3_isLabel_8 m_isIn rfl ⟨by decide, by decide⟩ ⟨by decide, by decide⟩ (Nat.le_of_ble_eq_true rfl) ?_
  exact x_zret M hr hlk dX3_isLabel_11 ⟨by decide, by decide⟩ (Or.inr (if_pos (is_in (by omega) (by omega)))) (by rw [if_pos (is_in (by omega) (by omega))]; rfl) rfl
set_option maxRecDepth 20000 in
set_option maxHeartbeats 2000000 in
theorem m_isLabel0 (hO : Ok B) {x : Int32} (h : bad (B 0 0) x) : x_Ret l D kc A yX3_isLabel cX3_isLabel 2 (some FieldType.boolean) rm_X3_isLabel [.ref (ad 6), .int x] (wl kc ad X (B) (th) ov (hw)) (some (.int (nI 0))) (wl kc ad X (B) (th) ov (hw)) := by
  refine x_ret_of RX3 (by decide +kernel) rfl [some (.ref (ad 6)), some (.int x)] (Nat.le_of_ble_eq_true rfl) rfl rfl ?_
  intro p e s m args below meth c M hr hlk hnm TB hAA
  have hB : ∀ r i, B r i < 2 ^ 31 := fun r i => Nat.lt_trans (hO.bd r i) (by decide)
  have hn := hO.n
  refine x_iload1 M dX3_isLabel_0 ?_
  refine x_iconst (v := nI 0) M dX3_isLabel_1 (by decide +kernel) ?_
  refine x_aload0 M dX3_isLabel_2 ?_
  refine gM4 M TB kw_419 dX3_isLabel_3 ?_
  refine x_iconst (v := nI 1) M dX3_isLabel_6 (by decide +kernel) ?_
  refine x_isub (v := nI (B 0 0) - nI 1) M dX3_isLabel_7 rfl ?_
  refine x_callS0 M TB hAA mv_X3_isIn kw_472 dX3_isLabel_8 m_isIn rfl ⟨by decide, by decide⟩ ⟨by decide, by decide⟩ (Nat.le_of_ble_eq_true rfl) ?_
  exact x_zret M hr hlk dX3_isLabel_11 ⟨by decide, by decide⟩ (Or.inl (if_neg (not_bad2 (by omega) h))) (by rw [if_neg (not_bad2 (by omega) h)]; rfl) rfl
theorem mv_X3_gets : x_MV yX3_gets cX3_gets 2 none 1 := ⟨kw_482, kw_21, ⟨by decide +kernel, by decide +kernel⟩, by decide +kernel, kw_481, kw_9⟩
abbrev rm_X3_gets : Room := { frames := 0, cells := 0, slots := 0, locals := 0 }
set_option maxRecDepth 20000 in
set_option maxHeartbeats 2000000 in
theorem m_gets (hB0 : Bd B) {i : Nat} (hi : i < 12) : x_Ret l D kc A yX3_gets cX3_gets 2 none rm_X3_gets [.ref (ad 6), .int (nI i)] (wl kc ad X (B) (th) ov (hw)) (none) (wl kc ad X (gets B i) (th) ov (hw)) := by
  refine x_ret_of RX3 (by decide +kernel) rfl [some (.ref (ad 6)), some (.int (nI i))] (Nat.le_of_ble_eq_true rfl) rfl rfl ?_
  intro p e s m args below meth c M hr hlk hnm TB hAA
  have hB : ∀ r i, B r i < 2 ^ 31 := fun r i => Nat.lt_trans (hB0 r i) (by decide)
  refine x_aload0 M dX3_gets_0 ?_
  refine x_dup M dX3_gets_1 rfl ?_
  refine gM2 M TB kw_417 dX3_gets_2 ?_
  refine x_iconst (v := nI 1) M dX3_gets_5 (by decide +kernel) ?_
  refine n_add M dX3_gets_6 ?_
  refine pM2 M TB kw_417 dX3_gets_7 ?_
  refine x_aload0 M dX3_gets_10 ?_
  refine gM11 M TB kw_426 dX3_gets_11 ?_
  refine x_iload1 M dX3_gets_14 ?_
  refine x_aload0 M dX3_gets_15 ?_
  refine gM2 M TB kw_417 dX3_gets_16 ?_
  refine sM8 M TB (by omega) dX3_gets_19 ?_
  refine x_aload0 M dX3_gets_20 ?_
  refine gM12 M TB kw_427 dX3_gets_21 ?_
  refine x_iload1 M dX3_gets_24 ?_
  refine x_aload0 M dX3_gets_25 ?_
  refine gM1 M TB kw_416 dX3_gets_26 ?_
  refine sM9 M TB (by omega) dX3_gets_29 ?_
  exact x_vret M hr hlk dX3_gets_30 ⟨by decide, by decide⟩ rfl rfl
theorem mv_X3_changed : x_MS yX3_changed cX3_changed 4 (some FieldType.int) 2 := ⟨kw_533, kw_21, ⟨by decide +kernel, by decide +kernel⟩, by decide +kernel, kw_532⟩
abbrev rm_X3_changed : Room := { frames := 0, cells := 0, slots := 0, locals := 0 }
set_option maxRecDepth 20000 in
set_option maxHeartbeats 2000000 in
theorem m_changed {a b : Nat} (ha : a < 2 ^ 30) (hb : b < 2 ^ 30) : x_Ret l D kc A yX3_changed cX3_changed 4 (some FieldType.int) rm_X3_changed [.int (nI a), .int (nI b)] (wl kc ad X (B) (th) ov (hw)) (some (.int (nI (digs a b)))) (wl kc ad X (B) (th) ov (hw)) := by
  refine x_ret_of RX3 (by decide +kernel) rfl [some (.int (nI a)), some (.int (nI b)), none, none] (Nat.le_of_ble_eq_true rfl) rfl rfl ?_
  intro p e s m args below meth c M hr hlk hnm TB hAA
  have hA : a < 2 ^ 31 := by omega
  have hC : b < 2 ^ 31 := by omega
  have J4 : ∀ n0, n0 = digs a b → x_X p l e rm_X3_changed s m args below meth c D A 4 0 0 (MQ below (x_Qc D A (some (.int (nI (digs a b)))) (wl kc ad X (B) (th) ov (hw))) args s rm_X3_changed.cells rm_X3_changed.slots A) (wl kc ad X (B) (th) ov (hw)) 4 [some (.int (nI a)), some (.int (nI b)), some (.int (nI n0)), some (.int (nI 10000))] [] := by
    intro n0 hc
    refine x_iload3 M dX3_changed_4 ?_
    refine x_sipush (v := nI 10000) M dX3_changed_5 (by decide +kernel) ?_
    refine n_icmp_ge (tgt := 42) M (by first | omega | exact hB _ _) (by first | omega | exact hB _ _) dX3_changed_8 (by decide) (fun q8 => ?_) (fun q8 => absurd q8 (by omega))
    refine x_iload2 M dX3_changed_42 ?_
    exact x_iret M hr hlk dX3_changed_43 ⟨by decide, by decide⟩ (by rw [hc]) rfl
  have J3 : ∀ n0, n0 + (dg1 a b 1000) = digs a b → x_X p l e rm_X3_changed s m args below meth c D A 4 0 0 (MQ below (x_Qc D A (some (.int (nI (digs a b)))) (wl kc ad X (B) (th) ov (hw))) args s rm_X3_changed.cells rm_X3_changed.slots A) (wl kc ad X (B) (th) ov (hw)) 4 [some (.int (nI a)), some (.int (nI b)), some (.int (nI n0)), some (.int (nI 1000))] [] := by
    intro n0 hc
    refine x_iload3 M dX3_changed_4 ?_
    refine x_sipush (v := nI 10000) M dX3_changed_5 (by decide +kernel) ?_
    refine n_icmp_ge (tgt := 42) M (by first | omega | exact hB _ _) (by first | omega | exact hB _ _) dX3_changed_8 (by decide) (fun q8 => absurd q8 (by omega)) (fun q8 => ?_)
    refine x_iload2 M dX3_changed_11 ?_
    refine x_iload0 M dX3_changed_12 ?_
    refine x_iload3 M dX3_changed_13 ?_
    refine n_div M (by first | omega | exact hB _ _) (by omega) (by first | omega | exact hB _ _) dX3_changed_14 ?_
    refine x_bipush (v := nI 10) M dX3_changed_15 (by decide +kernel) ?_
    refine n_rem M (by first | omega | exact hB _ _) (by omega) (by first | omega | exact hB _ _) dX3_changed_17 ?_
    refine x_iload1 M dX3_changed_18 ?_
    refine x_iload3 M dX3_changed_19 ?_
    refine n_div M (by first | omega | exact hB _ _) (by omega) (by first | omega | exact hB _ _) dX3_changed_20 ?_
    refine x_bipush (v := nI 10) M dX3_changed_21 (by decide +kernel) ?_
    refine n_rem M (by first | omega | exact hB _ _) (by omega) (by first | omega | exact hB _ _) dX3_changed_23 ?_
    refine n_icmp_eq (tgt := 31) M (by first | omega | exact hB _ _) (by first | omega | exact hB _ _) dX3_changed_24 (by decide) (fun q24 => ?_) (fun q24 => ?_)
    · refine x_iconst (v := nI 0) M dX3_changed_31 (by decide +kernel) ?_
      refine n_add M dX3_changed_32 ?_
      refine x_istore2 M dX3_changed_33 ?_
      refine x_iload3 M dX3_changed_34 ?_
      refine x_bipush (v := nI 10) M dX3_changed_35 (by decide +kernel) ?_
      refine n_mul M dX3_changed_37 ?_
      refine x_istore3 M dX3_changed_38 ?_
      refine x_goto (tgt := 4) M dX3_changed_39 (by decide) ?_
      exact J4 n0 (by have e : dg1 a b 1000 = 0 := if_pos q24; omega)
    · refine x_iconst (v := nI 1) M dX3_changed_27 (by decide +kernel) ?_
      refine x_goto (tgt := 32) M dX3_changed_28 (by decide) ?_
      refine n_add M dX3_changed_32 ?_
      refine x_istore2 M dX3_changed_33 ?_
      refine x_iload3 M dX3_changed_34 ?_
      refine x_bipush (v := nI 10) M dX3_changed_35 (by decide +kernel) ?_
      refine n_mul M dX3_changed_37 ?_
      refine x_istore3 M dX3_changed_38 ?_
      refine x_goto (tgt := 4) M dX3_changed_39 (by decide) ?_
      exact J4 (n0 + 1) (by have e : dg1 a b 1000 = 1 := if_neg q24; omega)
  have J2 : ∀ n0, n0 + (dg1 a b 100 + dg1 a b 1000) = digs a b → x_X p l e rm_X3_changed s m args below meth c D A 4 0 0 (MQ below (x_Qc D A (some (.int (nI (digs a b)))) (wl kc ad X (B) (th) ov (hw))) args s rm_X3_changed.cells rm_X3_changed.slots A) (wl kc ad X (B) (th) ov (hw)) 4 [some (.int (nI a)), some (.int (nI b)), some (.int (nI n0)), some (.int (nI 100))] [] := by
    intro n0 hc
    refine x_iload3 M dX3_changed_4 ?_
    refine x_sipush (v := nI 10000) M dX3_changed_5 (by decide +kernel) ?_
    refine n_icmp_ge (tgt := 42) M (by first | omega | exact hB _ _) (by first | omega | exact hB _ _) dX3_changed_8 (by decide) (fun q8 => absurd q8 (by omega)) (fun q8 => ?_)
    refine x_iload2 M dX3_changed_11 ?_
    refine x_iload0 M dX3_changed_12 ?_
    refine x_iload3 M dX3_changed_13 ?_
    refine n_div M (by first | omega | exact hB _ _) (by omega) (by first | omega | exact hB _ _) dX3_changed_14 ?_
    refine x_bipush (v := nI 10) M dX3_changed_15 (by decide +kernel) ?_
    refine n_rem M (by first | omega | exact hB _ _) (by omega) (by first | omega | exact hB _ _) dX3_changed_17 ?_
    refine x_iload1 M dX3_changed_18 ?_
    refine x_iload3 M dX3_changed_19 ?_
    refine n_div M (by first | omega | exact hB _ _) (by omega) (by first | omega | exact hB _ _) dX3_changed_20 ?_
    refine x_bipush (v := nI 10) M dX3_changed_21 (by decide +kernel) ?_
    refine n_rem M (by first | omega | exact hB _ _) (by omega) (by first | omega | exact hB _ _) dX3_changed_23 ?_
    refine n_icmp_eq (tgt := 31) M (by first | omega | exact hB _ _) (by first | omega | exact hB _ _) dX3_changed_24 (by decide) (fun q24 => ?_) (fun q24 => ?_)
    · refine x_iconst (v := nI 0) M dX3_changed_31 (by decide +kernel) ?_
      refine n_add M dX3_changed_32 ?_
      refine x_istore2 M dX3_changed_33 ?_
      refine x_iload3 M dX3_changed_34 ?_
      refine x_bipush (v := nI 10) M dX3_changed_35 (by decide +kernel) ?_
      refine n_mul M dX3_changed_37 ?_
      refine x_istore3 M dX3_changed_38 ?_
      refine x_goto (tgt := 4) M dX3_changed_39 (by decide) ?_
      exact J3 n0 (by have e : dg1 a b 100 = 0 := if_pos q24; omega)
    · refine x_iconst (v := nI 1) M dX3_changed_27 (by decide +kernel) ?_
      refine x_goto (tgt := 32) M dX3_changed_28 (by decide) ?_
      refine n_add M dX3_changed_32 ?_
      refine x_istore2 M dX3_changed_33 ?_
      refine x_iload3 M dX3_changed_34 ?_
      refine x_bipush (v := nI 10) M dX3_changed_35 (by decide +kernel) ?_
      refine n_mul M dX3_changed_37 ?_
      refine x_istore3 M dX3_changed_38 ?_
      refine x_goto (tgt := 4) M dX3_changed_39 (by decide) ?_
      exact J3 (n0 + 1) (by have e : dg1 a b 100 = 1 := if_neg q24; omega)
  have J1 : ∀ n0, n0 + (dg1 a b 10 + dg1 a b 100 + dg1 a b 1000) = digs a b → x_X p l e rm_X3_changed s m args below meth c D A 4 0 0 (MQ below (x_Qc D A (some (.int (nI (digs a b)))) (wl kc ad X (B) (th) ov (hw))) args s rm_X3_changed.cells rm_X3_changed.slots A) (wl kc ad X (B) (th) ov (hw)) 4 [some (.int (nI a)), some (.int (nI b)), some (.int (nI n0)), some (.int (nI 10))] [] := by
    intro n0 hc
    refine x_iload3 M dX3_changed_4 ?_
    refine x_sipush (v := nI 10000) M dX3_changed_5 (by decide +kernel) ?_
    refine n_icmp_ge (tgt := 42) M (by first | omega | exact hB _ _) (by first | omega | exact hB _ _) dX3_changed_8 (by decide) (fun q8 => absurd q8 (by omega)) (fun q8 => ?_)
    refine x_iload2 M dX3_changed_11 ?_
    refine x_iload0 M dX3_changed_12 ?_
    refine x_iload3 M dX3_changed_13 ?_
    refine n_div M (by first | omega | exact hB _ _) (by omega) (by first | omega | exact hB _ _) dX3_changed_14 ?_
    refine x_bipush (v := nI 10) M dX3_changed_15 (by decide +kernel) ?_
    refine n_rem M (by first | omega | exact hB _ _) (by omega) (by first | omega | exact hB _ _) dX3_changed_17 ?_
    refine x_iload1 M dX3_changed_18 ?_
    refine x_iload3 M dX3_changed_19 ?_
    refine n_div M (by first | omega | exact hB _ _) (by omega) (by first | omega | exact hB _ _) dX3_changed_20 ?_
    refine x_bipush (v := nI 10) M dX3_changed_21 (by decide +kernel) ?_
    refine n_rem M (by first | omega | exact hB _ _) (by omega) (by first | omega | exact hB _ _) dX3_changed_23 ?_
    refine n_icmp_eq (tgt := 31) M (by first | omega | exact hB _ _) (by first | omega | exact hB _ _) dX3_changed_24 (by decide) (fun q24 => ?_) (fun q24 => ?_)
    · refine x_iconst (v := nI 0) M dX3_changed_31 (by decide +kernel) ?_
      refine n_add M dX3_changed_32 ?_
      refine x_istore2 M dX3_changed_33 ?_
      refine x_iload3 M dX3_changed_34 ?_
      refine x_bipush (v := nI 10) M dX3_changed_35 (by decide +kernel) ?_
      refine n_mul M dX3_changed_37 ?_
      refine x_istore3 M dX3_changed_38 ?_
      refine x_goto (tgt := 4) M dX3_changed_39 (by decide) ?_
      exact J2 n0 (by have e : dg1 a b 10 = 0 := if_pos q24; omega)
    · refine x_iconst (v := nI 1) M dX3_changed_27 (by decide +kernel) ?_
      refine x_goto (tgt := 32) M dX3_changed_28 (by decide) ?_
      refine n_add M dX3_changed_32 ?_
      refine x_istore2 M dX3_changed_33 ?_
      refine x_iload3 M dX3_changed_34 ?_
      refine x_bipush (v := nI 10) M dX3_changed_35 (by decide +kernel) ?_
      refine n_mul M dX3_changed_37 ?_
      refine x_istore3 M dX3_changed_38 ?_
      refine x_goto (tgt := 4) M dX3_changed_39 (by decide) ?_
      exact J2 (n0 + 1) (by have e : dg1 a b 10 = 1 := if_neg q24; omega)
  have J0 : ∀ n0, n0 + (dg1 a b 1 + dg1 a b 10 + dg1 a b 100 + dg1 a b 1000) = digs a b → x_X p l e rm_X3_changed s m args below meth c D A 4 0 0 (MQ below (x_Qc D A (some (.int (nI (digs a b)))) (wl kc ad X (B) (th) ov (hw))) args s rm_X3_changed.cells rm_X3_changed.slots A) (wl kc ad X (B) (th) ov (hw)) 4 [some (.int (nI a)), some (.int (nI b)), some (.int (nI n0)), some (.int (nI 1))] [] := by
    intro n0 hc
    refine x_iload3 M dX3_changed_4 ?_
    refine x_sipush (v := nI 10000) M dX3_changed_5 (by decide +kernel) ?_
    refine n_icmp_ge (tgt := 42) M (by first | omega | exact hB _ _) (by first | omega | exact hB _ _) dX3_changed_8 (by decide) (fun q8 => absurd q8 (by omega)) (fun q8 => ?_)
    refine x_iload2 M dX3_changed_11 ?_
    refine x_iload0 M dX3_changed_12 ?_
    refine x_iload3 M dX3_changed_13 ?_
    refine n_div M (by first | omega | exact hB _ _) (by omega) (by first | omega | exact hB _ _) dX3_changed_14 ?_
    refine x_bipush (v := nI 10) M dX3_changed_15 (by decide +kernel) ?_
    refine n_rem M (by first | omega | exact hB _ _) (by omega) (by first | omega | exact hB _ _) dX3_changed_17 ?_
    refine x_iload1 M dX3_changed_18 ?_
    refine x_iload3 M dX3_changed_19 ?_
    refine n_div M (by first | omega | exact hB _ _) (by omega) (by first | omega | exact hB _ _) dX3_changed_20 ?_
    refine x_bipush (v := nI 10) M dX3_changed_21 (by decide +kernel) ?_
    refine n_rem M (by first | omega | exact hB _ _) (by omega) (by first | omega | exact hB _ _) dX3_changed_23 ?_
    refine n_icmp_eq (tgt := 31) M (by first | omega | exact hB _ _) (by first | omega | exact hB _ _) dX3_changed_24 (by decide) (fun q24 => ?_) (fun q24 => ?_)
    · refine x_iconst (v := nI 0) M dX3_changed_31 (by decide +kernel) ?_
      refine n_add M dX3_changed_32 ?_
      refine x_istore2 M dX3_changed_33 ?_
      refine x_iload3 M dX3_changed_34 ?_
      refine x_bipush (v := nI 10) M dX3_changed_35 (by decide +kernel) ?_
      refine n_mul M dX3_changed_37 ?_
      refine x_istore3 M dX3_changed_38 ?_
      refine x_goto (tgt := 4) M dX3_changed_39 (by decide) ?_
      exact J1 n0 (by have e : dg1 a b 1 = 0 := if_pos q24; omega)
    · refine x_iconst (v := nI 1) M dX3_changed_27 (by decide +kernel) ?_
      refine x_goto (tgt := 32) M dX3_changed_28 (by decide) ?_
      refine n_add M dX3_changed_32 ?_
      refine x_istore2 M dX3_changed_33 ?_
      refine x_iload3 M dX3_changed_34 ?_
      refine x_bipush (v := nI 10) M dX3_changed_35 (by decide +kernel) ?_
      refine n_mul M dX3_changed_37 ?_
      refine x_istore3 M dX3_changed_38 ?_
      refine x_goto (tgt := 4) M dX3_changed_39 (by decide) ?_
      exact J1 (n0 + 1) (by have e : dg1 a b 1 = 1 := if_neg q24; omega)
  refine x_iconst (v := nI 0) M dX3_changed_0 (by decide +kernel) ?_
  refine x_istore2 M dX3_changed_1 ?_
  refine x_iconst (v := nI 1) M dX3_changed_2 (by decide +kernel) ?_
  refine x_istore3 M dX3_changed_3 ?_
  exact J0 0 (by unfold digs; omega)
theorem mv_X3_redraws : x_MV yX3_redraws cX3_redraws 5 none 1 := ⟨kw_530, kw_21, ⟨by decide +kernel, by decide +kernel⟩, by decide +kernel, kw_529, kw_14⟩
abbrev rm_X3_redraws : Room := { frames := 1, cells := 0, slots := 0, locals := 23 }
set_option maxRecDepth 20000 in
set_option maxHeartbeats 2000000 in
theorem m_redraws (hO : Ok B) {i : Nat} (hi : i < 12) (hh : i < hw) (h20 : 20 ≤ B 5 i) : x_Ret l D kc A yX3_redraws cX3_redraws 5 none rm_X3_redraws [.ref (ad 6), .int (nI i)] (wl kc ad X (B) (th) ov (hw)) (none) (wl kc ad X (redr B i) (th) ov (hw)) := by
  refine x_ret_of RX3 (by decide +kernel) rfl [some (.ref (ad 6)), some (.int (nI i)), none, none, none] (Nat.le_of_ble_eq_true rfl) rfl rfl ?_
  intro p e s m args below meth c M hr hlk hnm TB hAA
  have hB : ∀ r i, B r i < 2 ^ 31 := fun r i => Nat.lt_trans (hO.bd r i) (by decide)
  have hwi := hO.w i
  have h4 := digs_4 (B 3 i) (B 1 (B 2 i))
  have hg := hO.g i
  refine x_aload0 M dX3_redraws_0 ?_
  refine gM3 M TB kw_418 dX3_redraws_1 ?_
  refine x_aload0 M dX3_redraws_4 ?_
  refine gM5 M TB kw_420 dX3_redraws_5 ?_
  refine x_iload1 M dX3_redraws_8 ?_
  refine aM2 M TB (by omega) dX3_redraws_9 ?_
  refine aM1 M TB (by omega) dX3_redraws_10 ?_
  refine x_istore2 M dX3_redraws_11 ?_
  refine x_aload0 M dX3_redraws_12 ?_
  refine gM6 M TB kw_421 dX3_redraws_13 ?_
  refine x_iload1 M dX3_redraws_16 ?_
  refine aM3 M TB (by omega) dX3_redraws_17 ?_
  refine x_iload2 M dX3_redraws_18 ?_
  refine x_callS0 M TB hAA mv_X3_changed kw_531 dX3_redraws_19 (m_changed (hO.bd _ _) (hO.bd _ _)) rfl ⟨by decide, by decide⟩ ⟨by decide, by decide⟩ (Nat.le_of_ble_eq_true rfl) ?_
  refine x_istore3 M dX3_redraws_22 ?_
  refine x_iload3 M dX3_redraws_23 ?_
  refine n_if_le (tgt := 98) M (by first | omega | exact hB _ _) dX3_redraws_24 (by decide) (fun q24 => ?_) (fun q24 => ?_)
  · exact x_vret M hr hlk dX3_redraws_98 ⟨by decide, by decide⟩ rfl (by rw [redr, if_pos q24] <;> rfl)
  · refine x_aload0 M dX3_redraws_27 ?_
    refine gM7 M TB kw_422 dX3_redraws_28 ?_
    refine x_iload1 M dX3_redraws_31 ?_
    refine aM4 M TB (by omega) dX3_redraws_32 ?_
    refine x_iload3 M dX3_redraws_33 ?_
    refine n_add M dX3_redraws_34 ?_
    refine x_bipush (v := nI 9) M dX3_redraws_35 (by decide +kernel) ?_
    refine n_icmp_le (tgt := 44) M (by first | omega | exact hB _ _) (by first | omega | exact hB _ _) dX3_redraws_37 (by decide) (fun q37 => ?_) (fun q37 => ?_)
    · refine x_iconst (v := nI 0) M dX3_redraws_44 (by decide +kernel) ?_
      refine x_istore4 M dX3_redraws_45 ?_
      refine x_aload0 M dX3_redraws_47 ?_
      refine gM8 M TB kw_423 dX3_redraws_48 ?_
      refine x_iload1 M dX3_redraws_51 ?_
      refine x_dup2 M dX3_redraws_52 rfl rfl ?_
      refine aM5 M TB (by omega) (by omega) dX3_redraws_53 ?_
      refine x_iload4 M dX3_redraws_54 ?_
      refine n_if_eq (tgt := 64) M (by first | omega | exact hB _ _) dX3_redraws_56 (by decide) (fun q56 => ?_) (fun q56 => absurd rfl q56)
      refine x_bipush (v := nI 10) M dX3_redraws_64 (by decide +kernel) ?_
      refine n_sub (a := B 5 i) M (by omega) dX3_redraws_66 ?_
      refine sM5 M TB (by omega) (by omega) dX3_redraws_67 ?_
      refine x_aload0 M dX3_redraws_68 ?_
      refine gM7 M TB kw_422 dX3_redraws_69 ?_
      refine x_iload1 M dX3_redraws_72 ?_
      refine x_iload4 M dX3_redraws_73 ?_
      refine n_if_eq (tgt := 82) M (by first | omega | exact hB _ _) dX3_redraws_75 (by decide) (fun q75 => ?_) (fun q75 => absurd rfl q75)
      refine x_aload0 M dX3_redraws_82 ?_
      refine gM7 M TB kw_422 dX3_redraws_83 ?_
      refine x_iload1 M dX3_redraws_86 ?_
      refine aM4 M TB (by omega) dX3_redraws_87 ?_
      refine x_iload3 M dX3_redraws_88 ?_
      refine n_add M dX3_redraws_89 ?_
      refine sM4 M TB (by omega) dX3_redraws_90 ?_
      refine x_aload0 M dX3_redraws_91 ?_
      refine gM6 M TB kw_421 dX3_redraws_92 ?_
      refine x_iload1 M dX3_redraws_95 ?_
      refine x_iload2 M dX3_redraws_96 ?_
      refine sM3 M TB (by omega) dX3_redraws_97 ?_
      exact x_vret M hr hlk dX3_redraws_98 ⟨by decide, by decide⟩ rfl (by rw [redr, if_neg (by omega), if_neg (by omega)] <;> rfl)
    · refine x_iconst (v := nI 1) M dX3_redraws_40 (by decide +kernel) ?_
      refine x_goto (tgt := 45) M dX3_redraws_41 (by decide) ?_
      refine x_istore4 M dX3_redraws_45 ?_
      refine x_aload0 M dX3_redraws_47 ?_
      refine gM8 M TB kw_423 dX3_redraws_48 ?_
      refine x_iload1 M dX3_redraws_51 ?_
      refine x_dup2 M dX3_redraws_52 rfl rfl ?_
      refine aM5 M TB (by omega) (by omega) dX3_redraws_53 ?_
      refine x_iload4 M dX3_redraws_54 ?_
      refine n_if_eq (tgt := 64) M (by first | omega | exact hB _ _) dX3_redraws_56 (by decide) (fun q56 => absurd q56 (by decide)) (fun q56 => ?_)
      refine x_bipush (v := nI 20) M dX3_redraws_59 (by decide +kernel) ?_
      refine x_goto (tgt := 66) M dX3_redraws_61 (by decide) ?_
      refine n_sub (a := B 5 i) M (by omega) dX3_redraws_66 ?_
      refine sM5 M TB (by omega) (by omega) dX3_redraws_67 ?_
      refine x_aload0 M dX3_redraws_68 ?_
      refine gM7 M TB kw_422 dX3_redraws_69 ?_
      refine x_iload1 M dX3_redraws_72 ?_
      refine x_iload4 M dX3_redraws_73 ?_
      refine n_if_eq (tgt := 82) M (by first | omega | exact hB _ _) dX3_redraws_75 (by decide) (fun q75 => absurd q75 (by decide)) (fun q75 => ?_)
      refine x_iconst (v := nI 0) M dX3_redraws_78 (by decide +kernel) ?_
      refine x_goto (tgt := 90) M dX3_redraws_79 (by decide) ?_
      refine sM4 M TB (by omega) dX3_redraws_90 ?_
      refine x_aload0 M dX3_redraws_91 ?_
      refine gM6 M TB kw_421 dX3_redraws_92 ?_
      refine x_iload1 M dX3_redraws_95 ?_
      refine x_iload2 M dX3_redraws_96 ?_
      refine sM3 M TB (by omega) dX3_redraws_97 ?_
      exact x_vret M hr hlk dX3_redraws_98 ⟨by decide, by decide⟩ rfl (by rw [redr, if_neg (by omega), if_pos q37] <;> rfl)
theorem mv_X3_sends : x_MV yX3_sends cX3_sends 2 none 1 := ⟨kw_526, kw_21, ⟨by decide +kernel, by decide +kernel⟩, by decide +kernel, kw_525, kw_13⟩
abbrev rm_X3_sends : Room := { frames := 2, cells := 0, slots := 0, locals := 47 }
set_option maxRecDepth 20000 in
set_option maxHeartbeats 2000000 in
theorem m_sends (hO : Ok B) {i : Nat} (hi : i < 12) (hh : i < hw) : x_Ret l D kc A yX3_sends cX3_sends 2 none rm_X3_sends [.ref (ad 6), .int (nI i)] (wl kc ad X (B) (th) ov (hw)) (none) (wl kc ad X (sen B i) (th) ov (hw)) := by
  refine x_ret_of RX3 (by decide +kernel) rfl [some (.ref (ad 6)), some (.int (nI i))] (Nat.le_of_ble_eq_true rfl) rfl rfl ?_
  intro p e s m args below meth c M hr hlk hnm TB hAA
  have hB : ∀ r i, B r i < 2 ^ 31 := fun r i => Nat.lt_trans (hO.bd r i) (by decide)
  have ht := hO.t
  have hY : Ok (up B 9 i (B 0 1 + 5)) := Ok_up hO (okv_5 (by omega) (by omega))
  have hB2 : ∀ r i2, redr (up B 9 i (B 0 1 + 5)) i r i2 < 2 ^ 31 := fun r i2 => Nat.lt_trans ((Ok_redr hY i).bd r i2) (by decide)
  refine x_aload0 M dX3_sends_0 ?_
  refine gM12 M TB kw_427 dX3_sends_1 ?_
  refine x_iload1 M dX3_sends_4 ?_
  refine x_aload0 M dX3_sends_5 ?_
  refine gM1 M TB kw_416 dX3_sends_6 ?_
  refine x_iconst (v := nI 5) M dX3_sends_9 (by decide +kernel) ?_
  refine n_add M dX3_sends_10 ?_
  refine sM9 M TB (by omega) dX3_sends_11 ?_
  refine x_aload0 M dX3_sends_12 ?_
  refine gM9 M TB kw_424 dX3_sends_13 ?_
  refine x_iload1 M dX3_sends_16 ?_
  refine aM6 M TB (by omega) dX3_sends_17 ?_
  refine n_if_le (tgt := 34) M (by first | omega | exact hB _ _) dX3_sends_18 (by decide) (fun q18 => ?_) (fun q18 => ?_)
  · refine x_aload0 M dX3_sends_34 ?_
    refine gM8 M TB kw_423 dX3_sends_35 ?_
    refine x_iload1 M dX3_sends_38 ?_
    refine aM5 M TB (by omega) (by omega) dX3_sends_39 ?_
    refine x_bipush (v := nI 20) M dX3_sends_40 (by decide +kernel) ?_
    refine n_icmp_lt (tgt := 79) M (by first | omega | exact hB _ _) (by first | omega | exact hB _ _) dX3_sends_42 (by decide) (fun q42 => ?_) (fun q42 => ?_)
    · exact x_vret M hr hlk dX3_sends_79 ⟨by decide, by decide⟩ rfl (by rw [sen, sen1, if_neg (by omega), if_neg (by omega)])
    · refine x_aload0 M dX3_sends_45 ?_
      refine x_iload1 M dX3_sends_46 ?_
      refine x_callV0 M TB hAA mv_X3_redraws kw_527 dX3_sends_47 (m_redraws (B := (up B 9 i (B 0 1 + 5))) hY hi hh q42) rfl wl_M rfl rfl ⟨by decide, by decide⟩ ⟨by decide, by decide⟩ (Nat.le_of_ble_eq_true rfl) ?_
      refine x_aload0 M dX3_sends_50 ?_
      refine gM10 M TB kw_425 dX3_sends_51 ?_
      refine x_iload1 M dX3_sends_54 ?_
      refine aM7 M TB (by omega) dX3_sends_55 ?_
      refine n_if_le (tgt := 72) M (hB2 _ _) dX3_sends_56 (by decide) (fun q56 => ?_) (fun q56 => ?_)
      · refine x_aload0 M dX3_sends_72 ?_
        refine gM11 M TB kw_426 dX3_sends_73 ?_
        refine x_iload1 M dX3_sends_76 ?_
        refine x_iconst (v := nI 0) M dX3_sends_77 (by decide +kernel) ?_
        refine sM8 M TB (by omega) dX3_sends_78 ?_
        exact x_vret M hr hlk dX3_sends_79 ⟨by decide, by decide⟩ rfl (by rw [sen, sen1, if_neg (by omega), if_pos q42, answ, if_neg (by omega)])
      · refine x_aload0 M dX3_sends_59 ?_
        refine gM10 M TB kw_425 dX3_sends_60 ?_
        refine x_iload1 M dX3_sends_63 ?_
        refine x_dup2 M dX3_sends_64 rfl rfl ?_
        refine aM7 M TB (by omega) dX3_sends_65 ?_
        refine x_iconst (v := nI 1) M dX3_sends_66 (by decide +kernel) ?_
        refine n_sub M (by omega) dX3_sends_67 ?_
        refine sM7 M TB (by omega) dX3_sends_68 ?_
        refine x_goto (tgt := 79) M dX3_sends_69 (by decide) ?_
        exact x_vret M hr hlk dX3_sends_79 ⟨by decide, by decide⟩ rfl (by rw [sen, sen1, if_neg (by omega), if_pos q42, answ, if_pos q56])
  · refine x_aload0 M dX3_sends_21 ?_
    refine gM9 M TB kw_424 dX3_sends_22 ?_
    refine x_iload1 M dX3_sends_25 ?_
    refine x_dup2 M dX3_sends_26 rfl rfl ?_
    refine aM6 M TB (by omega) dX3_sends_27 ?_
    refine x_iconst (v := nI 1) M dX3_sends_28 (by decide +kernel) ?_
    refine n_sub M (by omega) dX3_sends_29 ?_
    refine sM6 M TB (by omega) dX3_sends_30 ?_
    refine x_goto (tgt := 79) M dX3_sends_31 (by decide) ?_
    exact x_vret M hr hlk dX3_sends_79 ⟨by decide, by decide⟩ rfl (by rw [sen, sen1, if_pos q18])
theorem mv_X3_leastNow : x_MV yX3_leastNow cX3_leastNow 4 (some FieldType.int) 1 := ⟨kw_537, kw_21, ⟨by decide +kernel, by decide +kernel⟩, by decide +kernel, kw_536, kw_15⟩
abbrev rm_X3_leastNow : Room := { frames := 0, cells := 0, slots := 0, locals := 0 }
set_option maxRecDepth 20000 in
set_option maxHeartbeats 2000000 in
theorem m_leastNow (hO : Ok B) {w : Nat} (hw12 : w < 12) : x_Ret l D kc A yX3_leastNow cX3_leastNow 4 (some FieldType.int) rm_X3_leastNow [.ref (ad 6), .int (nI w)] (wl kc ad X (B) (th) ov (hw)) (some (.int (em (lnow B w (B 0 0))))) (wl kc ad X (B) (th) ov (hw)) := by
  refine x_ret_of RX3 (by decide +kernel) rfl [some (.ref (ad 6)), some (.int (nI w)), none, none] (Nat.le_of_ble_eq_true rfl) rfl rfl ?_
  intro p e s m args below meth c M hr hlk hnm TB hAA
  have hB : ∀ r i, B r i < 2 ^ 31 := fun r i => Nat.lt_trans (hO.bd r i) (by decide)
  have loop : ∀ (d k : Nat), k + d = B 0 0 → x_X p l e rm_X3_leastNow s m args below meth c D A 4 0 0 (MQ below (x_Qc D A (some (.int (em (lnow B w (B 0 0))))) (wl kc ad X (B) (th) ov (hw))) args s rm_X3_leastNow.cells rm_X3_leastNow.slots A) (wl kc ad X (B) (th) ov (hw)) 4 [some (.ref (ad 6)), some (.int (nI w)), some (.int (em (lnow B w k))), some (.int (nI k))] [] := by
    intro d
    induction d with
    | zero =>
      intro k hk
      have hl := lnow_le B w k
      have hn := hO.n
      have hsk := hO.s k
      refine x_iload3 M dX3_leastNow_4 ?_
      refine x_aload0 M dX3_leastNow_5 ?_
      refine gM4 M TB kw_419 dX3_leastNow_6 ?_
      refine n_icmp_ge (tgt := 54) M (by first | omega | exact hB _ _) (by first | omega | exact hB _ _) dX3_leastNow_9 (by decide) (fun q9 => ?_) (fun q9 => absurd q9 (by omega))
      refine x_iload2 M dX3_leastNow_54 ?_
      exact x_iret M hr hlk dX3_leastNow_55 ⟨by decide, by decide⟩ (by rw [show k = B 0 0 by omega]) rfl
    | succ d ih =>
      intro k hk
      have hl := lnow_le B w k
      have hn := hO.n
      have hsk := hO.s k
      by_cases hf : lnow B w k = 10000
      · rw [show em (lnow B w k) = -1 from if_pos hf]
        refine x_iload3 M dX3_leastNow_4 ?_
        refine x_aload0 M dX3_leastNow_5 ?_
        refine gM4 M TB kw_419 dX3_leastNow_6 ?_
        refine n_icmp_ge (tgt := 54) M (by first | omega | exact hB _ _) (by first | omega | exact hB _ _) dX3_leastNow_9 (by decide) (fun q9 => absurd q9 (by omega)) (fun q9 => ?_)
        refine x_aload0 M dX3_leastNow_12 ?_
        refine gM5 M TB kw_420 dX3_leastNow_13 ?_
        refine x_iload3 M dX3_leastNow_16 ?_
        refine aM2 M TB (by omega) dX3_leastNow_17 ?_
        refine x_iload1 M dX3_leastNow_18 ?_
        refine n_icmp_ne (tgt := 46) M (by first | omega | exact hB _ _) (by first | omega | exact hB _ _) dX3_leastNow_19 (by decide) (fun q19 => ?_) (fun q19 => ?_)
        · refine x_iload2 M dX3_leastNow_46 ?_
          refine x_istore2 M dX3_leastNow_47 ?_
          refine n_inc3 M dX3_leastNow_48 ?_
          refine x_goto (tgt := 4) M dX3_leastNow_51 (by decide) ?_
          have h9 := ih (k + 1) (by omega)
          rw [lnow_n q19, show em (lnow B w k) = -1 from if_pos hf] at h9
          exact h9
        · refine x_iload2 M dX3_leastNow_22 ?_
          refine x_iconst (v := (-1)) M dX3_leastNow_23 (by decide +kernel) ?_
          refine x_icmp_eq (tgt := 37) M dX3_leastNow_24 (by decide) (fun q24 => ?_) (fun q24 => absurd rfl q24)
          refine x_aload0 M dX3_leastNow_37 ?_
          refine gM6 M TB kw_421 dX3_leastNow_38 ?_
          refine x_iload3 M dX3_leastNow_41 ?_
          refine aM3 M TB (by omega) dX3_leastNow_42 ?_
          refine x_goto (tgt := 47) M dX3_leastNow_43 (by decide) ?_
          refine x_istore2 M dX3_leastNow_47 ?_
          refine n_inc3 M dX3_leastNow_48 ?_
          refine x_goto (tgt := 4) M dX3_leastNow_51 (by decide) ?_
          have h9 := ih (k + 1) (by omega)
          rw [lnow_w q19, hf, Nat.min_eq_right (by omega), show em (B 3 k) = nI (B 3 k) from em_n (by omega)] at h9
          exact h9
      · rw [show em (lnow B w k) = nI (lnow B w k) from if_neg hf]
        refine x_iload3 M dX3_leastNow_4 ?_
        refine x_aload0 M dX3_leastNow_5 ?_
        refine gM4 M TB kw_419 dX3_leastNow_6 ?_
        refine n_icmp_ge (tgt := 54) M (by first | omega | exact hB _ _) (by first | omega | exact hB _ _) dX3_leastNow_9 (by decide) (fun q9 => absurd q9 (by omega)) (fun q9 => ?_)
        refine x_aload0 M dX3_leastNow_12 ?_
        refine gM5 M TB kw_420 dX3_leastNow_13 ?_
        refine x_iload3 M dX3_leastNow_16 ?_
        refine aM2 M TB (by omega) dX3_leastNow_17 ?_
        refine x_iload1 M dX3_leastNow_18 ?_
        refine n_icmp_ne (tgt := 46) M (by first | omega | exact hB _ _) (by first | omega | exact hB _ _) dX3_leastNow_19 (by decide) (fun q19 => ?_) (fun q19 => ?_)
        · refine x_iload2 M dX3_leastNow_46 ?_
          refine x_istore2 M dX3_leastNow_47 ?_
          refine n_inc3 M dX3_leastNow_48 ?_
          refine x_goto (tgt := 4) M dX3_leastNow_51 (by decide) ?_
          have h9 := ih (k + 1) (by omega)
          rw [lnow_n q19, show em (lnow B w k) = nI (lnow B w k) from if_neg hf] at h9
          exact h9
        · refine x_iload2 M dX3_leastNow_22 ?_
          refine x_iconst (v := (-1)) M dX3_leastNow_23 (by decide +kernel) ?_
          refine x_icmp_eq (tgt := 37) M dX3_leastNow_24 (by decide) (fun q24 => absurd q24 (nI_m1 (by omega))) (fun q24 => ?_)
          refine x_aload0 M dX3_leastNow_27 ?_
          refine gM6 M TB kw_421 dX3_leastNow_28 ?_
          refine x_iload3 M dX3_leastNow_31 ?_
          refine aM3 M TB (by omega) dX3_leastNow_32 ?_
          refine x_iload2 M dX3_leastNow_33 ?_
          refine n_icmp_ge (tgt := 46) M (by first | omega | exact hB _ _) (by first | omega | exact hB _ _) dX3_leastNow_34 (by decide) (fun q34 => ?_) (fun q34 => ?_)
          · refine x_iload2 M dX3_leastNow_46 ?_
            refine x_istore2 M dX3_leastNow_47 ?_
            refine n_inc3 M dX3_leastNow_48 ?_
            refine x_goto (tgt := 4) M dX3_leastNow_51 (by decide) ?_
            have h9 := ih (k + 1) (by omega)
            rw [lnow_w q19, Nat.min_eq_left q34, em_n hf] at h9
            exact h9
          · refine x_aload0 M dX3_leastNow_37 ?_
            refine gM6 M TB kw_421 dX3_leastNow_38 ?_
            refine x_iload3 M dX3_leastNow_41 ?_
            refine aM3 M TB (by omega) dX3_leastNow_42 ?_
            refine x_goto (tgt := 47) M dX3_leastNow_43 (by decide) ?_
            refine x_istore2 M dX3_leastNow_47 ?_
            refine n_inc3 M dX3_leastNow_48 ?_
            refine x_goto (tgt := 4) M dX3_leastNow_51 (by decide) ?_
            have h9 := ih (k + 1) (by omega)
            rw [lnow_w q19, Nat.min_eq_right (by omega), show em (B 3 k) = nI (B 3 k) from em_n (by omega)] at h9
            exact h9
  refine x_iconst (v := (-1)) M dX3_leastNow_0 (by decide +kernel) ?_
  refine x_istore2 M dX3_leastNow_1 ?_
  refine x_iconst (v := nI 0) M dX3_leastNow_2 (by decide +kernel) ?_
  refine x_istore3 M dX3_leastNow_3 ?_
  exact loop (B 0 0) 0 (by omega)
theorem mv_X3_lesser : x_MS yX3_lesser cX3_lesser 2 (some FieldType.int) 2 := ⟨kw_540, kw_21, ⟨by decide +kernel, by decide +kernel⟩, by decide +kernel, kw_539⟩
abbrev rm_X3_lesser : Room := { frames := 0, cells := 0, slots := 0, locals := 0 }

set_option maxRecDepth 20000 in
set_option maxHeartbeats 2000000 in
theorem m_lesser {a b : Nat} (ha : a ≤ 10000) (hb : b ≤ 10000) : x_Ret l D kc A yX3_lesser cX3_lesser 2 (some FieldType.int) rm_X3_lesser [.int (em a), .int (em b)] (wl kc ad X (B) (th) ov (hw)) (some (.int (em (min a b)))) (wl kc ad X (B) (th) ov (hw)) := by
  by_cases ha0 : a = 10000
  · rw [show em a = -1 from if_pos ha0]
    by_cases hb0 : b = 10000
    · rw [show em b = -1 from if_pos hb0]
      refine x_ret_of RX3 (by decide +kernel) rfl [some (.int (-1)), some (.int (-1))] (Nat.le_of_ble_eq_true rfl) rfl rfl ?_
      intro p e s m args below meth c M hr hlk hnm TB hAA
      refine x_iload0 M dX3_lesser_0 ?_
      refine x_iconst (v := (-1)) M dX3_lesser_1 (by decide +kernel) ?_
      refine x_icmp_eq (tgt := 15) M dX3_lesser_2 (by decide) (fun q2 => ?_) (fun q2 => absurd rfl q2)
      refine x_iload1 M dX3_lesser_15 ?_
      refine x_goto (tgt := 20) M dX3_lesser_16 (by decide) ?_
      exact x_iret M hr hlk dX3_lesser_20 ⟨by decide, by decide⟩ (by rw [ha0, hb0]; rfl) rfl
    · rw [show em b = nI b from if_neg hb0]
      refine x_ret_of RX3 (by decide +kernel) rfl [some (.int (-1)), some (.int (nI b))] (Nat.le_of_ble_eq_true rfl) rfl rfl ?_
      intro p e s m args below meth c M hr hlk hnm TB hAA
      refine x_iload0 M dX3_lesser_0 ?_
      refine x_iconst (v := (-1)) M dX3_lesser_1 (by decide +kernel) ?_
      refine x_icmp_eq (tgt := 15) M dX3_lesser_2 (by decide) (fun q2 => ?_) (fun q2 => absurd rfl q2)
      refine x_iload1 M dX3_lesser_15 ?_
      refine x_goto (tgt := 20) M dX3_lesser_16 (by decide) ?_
      exact x_iret M hr hlk dX3_lesser_20 ⟨by decide, by decide⟩ (by rw [ha0, Nat.min_eq_right (by omega), em_n hb0]) rfl
  · rw [show em a = nI a from if_neg ha0]
    by_cases hb0 : b = 10000
    · rw [show em b = -1 from if_pos hb0]
      refine x_ret_of RX3 (by decide +kernel) rfl [some (.int (nI a)), some (.int (-1))] (Nat.le_of_ble_eq_true rfl) rfl rfl ?_
      intro p e s m args below meth c M hr hlk hnm TB hAA
      refine x_iload0 M dX3_lesser_0 ?_
      refine x_iconst (v := (-1)) M dX3_lesser_1 (by decide +kernel) ?_
      refine x_icmp_eq (tgt := 15) M dX3_lesser_2 (by decide) (fun q2 => absurd q2 (nI_m1 (by omega))) (fun q2 => ?_)
      refine x_iload1 M dX3_lesser_5 ?_
      refine x_iconst (v := (-1)) M dX3_lesser_6 (by decide +kernel) ?_
      refine x_icmp_eq (tgt := 19) M dX3_lesser_7 (by decide) (fun q7 => ?_) (fun q7 => absurd rfl q7)
      refine x_iload0 M dX3_lesser_19 ?_
      exact x_iret M hr hlk dX3_lesser_20 ⟨by decide, by decide⟩ (by rw [hb0, Nat.min_eq_left (by omega), em_n ha0]) rfl
    · rw [show em b = nI b from if_neg hb0]
      refine x_ret_of RX3 (by decide +kernel) rfl [some (.int (nI a)), some (.int (nI b))] (Nat.le_of_ble_eq_true rfl) rfl rfl ?_
      intro p e s m args below meth c M hr hlk hnm TB hAA
      refine x_iload0 M dX3_lesser_0 ?_
      refine x_iconst (v := (-1)) M dX3_lesser_1 (by decide +kernel) ?_
      refine x_icmp_eq (tgt := 15) M dX3_lesser_2 (by decide) (fun q2 => absurd q2 (nI_m1 (by omega))) (fun q2 => ?_)
      refine x_iload1 M dX3_lesser_5 ?_
      refine x_iconst (v := (-1)) M dX3_lesser_6 (by decide +kernel) ?_
      refine x_icmp_eq (tgt := 19) M dX3_lesser_7 (by decide) (fun q7 => absurd q7 (nI_m1 (by omega))) (fun q7 => ?_)
      refine x_iload1 M dX3_lesser_10 ?_
      refine x_iload0 M dX3_lesser_11 ?_
      refine n_icmp_ge (tgt := 19) M (by first | omega | exact hB _ _) (by first | omega | exact hB _ _) dX3_lesser_12 (by decide) (fun q12 => ?_) (fun q12 => ?_)
      · refine x_iload0 M dX3_lesser_19 ?_
        exact x_iret M hr hlk dX3_lesser_20 ⟨by decide, by decide⟩ (by rw [Nat.min_eq_left q12, em_n ha0]) rfl
      · refine x_iload1 M dX3_lesser_15 ?_
        refine x_goto (tgt := 20) M dX3_lesser_16 (by decide) ?_
        exact x_iret M hr hlk dX3_lesser_20 ⟨by decide, by decide⟩ (by rw [Nat.min_eq_right (by omega), em_n hb0]) rfl
theorem m_lesserN {a b : Nat} (ha : a < 10000) (hb : b ≤ 10000) : x_Ret l D kc A yX3_lesser cX3_lesser 2 (some FieldType.int) rm_X3_lesser [.int (nI a), .int (em b)] (wl kc ad X (B) (th) ov (hw)) (some (.int (em (min a b)))) (wl kc ad X (B) (th) ov (hw)) := by
  have h := m_lesser (l := l) (D := D) (kc := kc) (A := A) (ad := ad) (X := X) (B := B) (th := th) (ov := ov) (hw := hw) (a := a) (b := b) (by omega) hb
  rw [show em a = nI a from if_neg (by omega)] at h
  exact h
theorem mv_X3_longest : x_MV yX3_longest cX3_longest 5 (some FieldType.int) 0 := ⟨kw_522, kw_21, ⟨by decide +kernel, by decide +kernel⟩, by decide +kernel, kw_521, kw_12⟩
abbrev rm_X3_longest : Room := { frames := 0, cells := 0, slots := 0, locals := 0 }
set_option maxRecDepth 20000 in
set_option maxHeartbeats 2000000 in
theorem m_longest (hO : Ok B) : x_Ret l D kc A yX3_longest cX3_longest 5 (some FieldType.int) rm_X3_longest [.ref (ad 6)] (wl kc ad X (B) (th) ov (hw)) (some (.int (oI (nxt B (B 0 0))))) (wl kc ad X (B) (th) ov (hw)) := by
  refine x_ret_of RX3 (by decide +kernel) rfl [some (.ref (ad 6)), none, none, none, none] (Nat.le_of_ble_eq_true rfl) rfl rfl ?_
  intro p e s m args below meth c M hr hlk hnm TB hAA
  have hB : ∀ r i, B r i < 2 ^ 31 := fun r i => Nat.lt_trans (hO.bd r i) (by decide)
  have loop : ∀ (d k : Nat), k + d = B 0 0 → ∀ b3 b4 : Option Value, x_X p l e rm_X3_longest s m args below meth c D A 5 0 0 (MQ below (x_Qc D A (some (.int (oI (nxt B (B 0 0))))) (wl kc ad X (B) (th) ov (hw))) args s rm_X3_longest.cells rm_X3_longest.slots A) (wl kc ad X (B) (th) ov (hw)) 4 [some (.ref (ad 6)), some (.int (oI (nxt B k))), some (.int (nI k)), b3, b4] [] := by
    intro d
    induction d with
    | zero =>
      intro k hk b3 b4
      have hn := hO.n
      refine x_iload2 M dX3_longest_4 ?_
      refine x_aload0 M dX3_longest_5 ?_
      refine gM4 M TB kw_419 dX3_longest_6 ?_
      refine n_icmp_ge (tgt := 118) M (by first | omega | exact hB _ _) (by first | omega | exact hB _ _) dX3_longest_9 (by decide) (fun q9 => ?_) (fun q9 => absurd q9 (by omega))
      refine x_iload1 M dX3_longest_118 ?_
      exact x_iret M hr hlk dX3_longest_119 ⟨by decide, by decide⟩ (by rw [show k = B 0 0 by omega]) rfl
    | succ d ih =>
      intro k hk b3 b4
      have hn := hO.n
      cases hfo : nxt B k with
      | none =>
        refine x_iload2 M dX3_longest_4 ?_
        refine x_aload0 M dX3_longest_5 ?_
        refine gM4 M TB kw_419 dX3_longest_6 ?_
        refine n_icmp_ge (tgt := 118) M (by first | omega | exact hB _ _) (by first | omega | exact hB _ _) dX3_longest_9 (by decide) (fun q9 => absurd q9 (by omega)) (fun q9 => ?_)
        refine x_aload0 M dX3_longest_12 ?_
        refine gM11 M TB kw_426 dX3_longest_13 ?_
        refine x_iload2 M dX3_longest_16 ?_
        refine aM8 M TB (by omega) dX3_longest_17 ?_
        refine n_if_le (tgt := 38) M (by first | omega | exact hB _ _) dX3_longest_18 (by decide) (fun q18 => ?_) (fun q18 => ?_)
        · refine x_iconst (v := nI 0) M dX3_longest_38 (by decide +kernel) ?_
          refine x_istore3 M dX3_longest_39 ?_
          refine x_iload3 M dX3_longest_40 ?_
          refine n_if_eq (tgt := 98) M (by first | omega | exact hB _ _) dX3_longest_41 (by decide) (fun q41 => ?_) (fun q41 => absurd rfl q41)
          refine x_iconst (v := nI 0) M dX3_longest_98 (by decide +kernel) ?_
          refine x_istore4 M dX3_longest_99 ?_
          refine x_iload4 M dX3_longest_101 ?_
          refine n_if_eq (tgt := 110) M (by first | omega | exact hB _ _) dX3_longest_103 (by decide) (fun q103 => ?_) (fun q103 => absurd rfl q103)
          refine x_iload1 M dX3_longest_110 ?_
          refine x_istore1 M dX3_longest_111 ?_
          refine n_inc2 M dX3_longest_112 ?_
          refine x_goto (tgt := 4) M dX3_longest_115 (by decide) ?_
          have h9 := ih (k + 1) (by omega)
          rw [nxt_n hfo, if_neg (fun h => h.1 q18)] at h9
          exact h9 _ _
        · refine x_aload0 M dX3_longest_21 ?_
          refine gM12 M TB kw_427 dX3_longest_22 ?_
          refine x_iload2 M dX3_longest_25 ?_
          refine aM9 M TB (by omega) dX3_longest_26 ?_
          refine x_aload0 M dX3_longest_27 ?_
          refine gM1 M TB kw_416 dX3_longest_28 ?_
          refine n_icmp_gt (tgt := 38) M (by first | omega | exact hB _ _) (by first | omega | exact hB _ _) dX3_longest_31 (by decide) (fun q31 => ?_) (fun q31 => ?_)
          · refine x_iconst (v := nI 0) M dX3_longest_38 (by decide +kernel) ?_
            refine x_istore3 M dX3_longest_39 ?_
            refine x_iload3 M dX3_longest_40 ?_
            refine n_if_eq (tgt := 98) M (by first | omega | exact hB _ _) dX3_longest_41 (by decide) (fun q41 => ?_) (fun q41 => absurd rfl q41)
            refine x_iconst (v := nI 0) M dX3_longest_98 (by decide +kernel) ?_
            refine x_istore4 M dX3_longest_99 ?_
            refine x_iload4 M dX3_longest_101 ?_
            refine n_if_eq (tgt := 110) M (by first | omega | exact hB _ _) dX3_longest_103 (by decide) (fun q103 => ?_) (fun q103 => absurd rfl q103)
            refine x_iload1 M dX3_longest_110 ?_
            refine x_istore1 M dX3_longest_111 ?_
            refine n_inc2 M dX3_longest_112 ?_
            refine x_goto (tgt := 4) M dX3_longest_115 (by decide) ?_
            have h9 := ih (k + 1) (by omega)
            rw [nxt_n hfo, if_neg (fun h => absurd h.2 (by omega))] at h9
            exact h9 _ _
          · refine x_iconst (v := nI 1) M dX3_longest_34 (by decide +kernel) ?_
            refine x_goto (tgt := 39) M dX3_longest_35 (by decide) ?_
            refine x_istore3 M dX3_longest_39 ?_
            refine x_iload3 M dX3_longest_40 ?_
            refine n_if_eq (tgt := 98) M (by first | omega | exact hB _ _) dX3_longest_41 (by decide) (fun q41 => absurd q41 (by decide)) (fun q41 => ?_)
            refine x_iload1 M dX3_longest_44 ?_
            refine x_iconst (v := (-1)) M dX3_longest_45 (by decide +kernel) ?_
            refine x_icmp_eq (tgt := 94) M dX3_longest_46 (by decide) (fun q46 => ?_) (fun q46 => absurd rfl q46)
            refine x_iconst (v := nI 1) M dX3_longest_94 (by decide +kernel) ?_
            refine x_goto (tgt := 99) M dX3_longest_95 (by decide) ?_
            refine x_istore4 M dX3_longest_99 ?_
            refine x_iload4 M dX3_longest_101 ?_
            refine n_if_eq (tgt := 110) M (by first | omega | exact hB _ _) dX3_longest_103 (by decide) (fun q103 => absurd q103 (by decide)) (fun q103 => ?_)
            refine x_iload2 M dX3_longest_106 ?_
            refine x_goto (tgt := 111) M dX3_longest_107 (by decide) ?_
            refine x_istore1 M dX3_longest_111 ?_
            refine n_inc2 M dX3_longest_112 ?_
            refine x_goto (tgt := 4) M dX3_longest_115 (by decide) ?_
            have h9 := ih (k + 1) (by omega)
            rw [nxt_n hfo, if_pos ⟨by omega, q31⟩] at h9
            exact h9 _ _
      | some j =>
        have hj := nxt_of hfo
        refine x_iload2 M dX3_longest_4 ?_
        refine x_aload0 M dX3_longest_5 ?_
        refine gM4 M TB kw_419 dX3_longest_6 ?_
        refine n_icmp_ge (tgt := 118) M (by first | omega | exact hB _ _) (by first | omega | exact hB _ _) dX3_longest_9 (by decide) (fun q9 => absurd q9 (by omega)) (fun q9 => ?_)
        refine x_aload0 M dX3_longest_12 ?_
        refine gM11 M TB kw_426 dX3_longest_13 ?_
        refine x_iload2 M dX3_longest_16 ?_
        refine aM8 M TB (by omega) dX3_longest_17 ?_
        refine n_if_le (tgt := 38) M (by first | omega | exact hB _ _) dX3_longest_18 (by decide) (fun q18 => ?_) (fun q18 => ?_)
        · refine x_iconst (v := nI 0) M dX3_longest_38 (by decide +kernel) ?_
          refine x_istore3 M dX3_longest_39 ?_
          refine x_iload3 M dX3_longest_40 ?_
          refine n_if_eq (tgt := 98) M (by first | omega | exact hB _ _) dX3_longest_41 (by decide) (fun q41 => ?_) (fun q41 => absurd rfl q41)
          refine x_iconst (v := nI 0) M dX3_longest_98 (by decide +kernel) ?_
          refine x_istore4 M dX3_longest_99 ?_
          refine x_iload4 M dX3_longest_101 ?_
          refine n_if_eq (tgt := 110) M (by first | omega | exact hB _ _) dX3_longest_103 (by decide) (fun q103 => ?_) (fun q103 => absurd rfl q103)
          refine x_iload1 M dX3_longest_110 ?_
          refine x_istore1 M dX3_longest_111 ?_
          refine n_inc2 M dX3_longest_112 ?_
          refine x_goto (tgt := 4) M dX3_longest_115 (by decide) ?_
          have h9 := ih (k + 1) (by omega)
          rw [nxt_s hfo, if_neg (fun h : due B k ∧ bef B k j => (fun h => h.1 q18) h.1)] at h9
          exact h9 _ _
        · refine x_aload0 M dX3_longest_21 ?_
          refine gM12 M TB kw_427 dX3_longest_22 ?_
          refine x_iload2 M dX3_longest_25 ?_
          refine aM9 M TB (by omega) dX3_longest_26 ?_
          refine x_aload0 M dX3_longest_27 ?_
          refine gM1 M TB kw_416 dX3_longest_28 ?_
          refine n_icmp_gt (tgt := 38) M (by first | omega | exact hB _ _) (by first | omega | exact hB _ _) dX3_longest_31 (by decide) (fun q31 => ?_) (fun q31 => ?_)
          · refine x_iconst (v := nI 0) M dX3_longest_38 (by decide +kernel) ?_
            refine x_istore3 M dX3_longest_39 ?_
            refine x_iload3 M dX3_longest_40 ?_
            refine n_if_eq (tgt := 98) M (by first | omega | exact hB _ _) dX3_longest_41 (by decide) (fun q41 => ?_) (fun q41 => absurd rfl q41)
            refine x_iconst (v := nI 0) M dX3_longest_98 (by decide +kernel) ?_
            refine x_istore4 M dX3_longest_99 ?_
            refine x_iload4 M dX3_longest_101 ?_
            refine n_if_eq (tgt := 110) M (by first | omega | exact hB _ _) dX3_longest_103 (by decide) (fun q103 => ?_) (fun q103 => absurd rfl q103)
            refine x_iload1 M dX3_longest_110 ?_
            refine x_istore1 M dX3_longest_111 ?_
            refine n_inc2 M dX3_longest_112 ?_
            refine x_goto (tgt := 4) M dX3_longest_115 (by decide) ?_
            have h9 := ih (k + 1) (by omega)
            rw [nxt_s hfo, if_neg (fun h : due B k ∧ bef B k j => (fun h => absurd h.2 (by omega)) h.1)] at h9
            exact h9 _ _
          · refine x_iconst (v := nI 1) M dX3_longest_34 (by decide +kernel) ?_
            refine x_goto (tgt := 39) M dX3_longest_35 (by decide) ?_
            refine x_istore3 M dX3_longest_39 ?_
            refine x_iload3 M dX3_longest_40 ?_
            refine n_if_eq (tgt := 98) M (by first | omega | exact hB _ _) dX3_longest_41 (by decide) (fun q41 => absurd q41 (by decide)) (fun q41 => ?_)
            refine x_iload1 M dX3_longest_44 ?_
            refine x_iconst (v := (-1)) M dX3_longest_45 (by decide +kernel) ?_
            refine x_icmp_eq (tgt := 94) M dX3_longest_46 (by decide) (fun q46 => absurd q46 (nI_m1 (by omega))) (fun q46 => ?_)
            refine x_aload0 M dX3_longest_49 ?_
            refine gM12 M TB kw_427 dX3_longest_50 ?_
            refine x_iload2 M dX3_longest_53 ?_
            refine aM9 M TB (by omega) dX3_longest_54 ?_
            refine x_aload0 M dX3_longest_55 ?_
            refine gM12 M TB kw_427 dX3_longest_56 ?_
            refine x_iload1 M dX3_longest_59 ?_
            refine aM9 M TB (by omega) dX3_longest_60 ?_
            refine n_icmp_lt (tgt := 94) M (by first | omega | exact hB _ _) (by first | omega | exact hB _ _) dX3_longest_61 (by decide) (fun q61 => ?_) (fun q61 => ?_)
            · refine x_iconst (v := nI 1) M dX3_longest_94 (by decide +kernel) ?_
              refine x_goto (tgt := 99) M dX3_longest_95 (by decide) ?_
              refine x_istore4 M dX3_longest_99 ?_
              refine x_iload4 M dX3_longest_101 ?_
              refine n_if_eq (tgt := 110) M (by first | omega | exact hB _ _) dX3_longest_103 (by decide) (fun q103 => absurd q103 (by decide)) (fun q103 => ?_)
              refine x_iload2 M dX3_longest_106 ?_
              refine x_goto (tgt := 111) M dX3_longest_107 (by decide) ?_
              refine x_istore1 M dX3_longest_111 ?_
              refine n_inc2 M dX3_longest_112 ?_
              refine x_goto (tgt := 4) M dX3_longest_115 (by decide) ?_
              have h9 := ih (k + 1) (by omega)
              rw [nxt_s hfo, if_pos ⟨⟨by omega, q31⟩, Or.inl q61⟩] at h9
              exact h9 _ _
            · refine x_aload0 M dX3_longest_64 ?_
              refine gM12 M TB kw_427 dX3_longest_65 ?_
              refine x_iload2 M dX3_longest_68 ?_
              refine aM9 M TB (by omega) dX3_longest_69 ?_
              refine x_aload0 M dX3_longest_70 ?_
              refine gM12 M TB kw_427 dX3_longest_71 ?_
              refine x_iload1 M dX3_longest_74 ?_
              refine aM9 M TB (by omega) dX3_longest_75 ?_
              refine n_icmp_ne (tgt := 98) M (by first | omega | exact hB _ _) (by first | omega | exact hB _ _) dX3_longest_76 (by decide) (fun q76 => ?_) (fun q76 => ?_)
              · refine x_iconst (v := nI 0) M dX3_longest_98 (by decide +kernel) ?_
                refine x_istore4 M dX3_longest_99 ?_
                refine x_iload4 M dX3_longest_101 ?_
                refine n_if_eq (tgt := 110) M (by first | omega | exact hB _ _) dX3_longest_103 (by decide) (fun q103 => ?_) (fun q103 => absurd rfl q103)
                refine x_iload1 M dX3_longest_110 ?_
                refine x_istore1 M dX3_longest_111 ?_
                refine n_inc2 M dX3_longest_112 ?_
                refine x_goto (tgt := 4) M dX3_longest_115 (by decide) ?_
                have h9 := ih (k + 1) (by omega)
                rw [nxt_s hfo, if_neg (fun h : due B k ∧ bef B k j => absurd h.2 (by unfold bef; omega))] at h9
                exact h9 _ _
              · refine x_aload0 M dX3_longest_79 ?_
                refine gM11 M TB kw_426 dX3_longest_80 ?_
                refine x_iload2 M dX3_longest_83 ?_
                refine aM8 M TB (by omega) dX3_longest_84 ?_
                refine x_aload0 M dX3_longest_85 ?_
                refine gM11 M TB kw_426 dX3_longest_86 ?_
                refine x_iload1 M dX3_longest_89 ?_
                refine aM8 M TB (by omega) dX3_longest_90 ?_
                refine n_icmp_ge (tgt := 98) M (by first | omega | exact hB _ _) (by first | omega | exact hB _ _) dX3_longest_91 (by decide) (fun q91 => ?_) (fun q91 => ?_)
                · refine x_iconst (v := nI 0) M dX3_longest_98 (by decide +kernel) ?_
                  refine x_istore4 M dX3_longest_99 ?_
                  refine x_iload4 M dX3_longest_101 ?_
                  refine n_if_eq (tgt := 110) M (by first | omega | exact hB _ _) dX3_longest_103 (by decide) (fun q103 => ?_) (fun q103 => absurd rfl q103)
                  refine x_iload1 M dX3_longest_110 ?_
                  refine x_istore1 M dX3_longest_111 ?_
                  refine n_inc2 M dX3_longest_112 ?_
                  refine x_goto (tgt := 4) M dX3_longest_115 (by decide) ?_
                  have h9 := ih (k + 1) (by omega)
                  rw [nxt_s hfo, if_neg (fun h : due B k ∧ bef B k j => absurd h.2 (by unfold bef; omega))] at h9
                  exact h9 _ _
                · refine x_iconst (v := nI 1) M dX3_longest_94 (by decide +kernel) ?_
                  refine x_goto (tgt := 99) M dX3_longest_95 (by decide) ?_
                  refine x_istore4 M dX3_longest_99 ?_
                  refine x_iload4 M dX3_longest_101 ?_
                  refine n_if_eq (tgt := 110) M (by first | omega | exact hB _ _) dX3_longest_103 (by decide) (fun q103 => absurd q103 (by decide)) (fun q103 => ?_)
                  refine x_iload2 M dX3_longest_106 ?_
                  refine x_goto (tgt := 111) M dX3_longest_107 (by decide) ?_
                  refine x_istore1 M dX3_longest_111 ?_
                  refine n_inc2 M dX3_longest_112 ?_
                  refine x_goto (tgt := 4) M dX3_longest_115 (by decide) ?_
                  have h9 := ih (k + 1) (by omega)
                  rw [nxt_s hfo, if_pos ⟨⟨by omega, q31⟩, Or.inr ⟨q76, q91⟩⟩] at h9
                  exact h9 _ _
  refine x_iconst (v := (-1)) M dX3_longest_0 (by decide +kernel) ?_
  refine x_istore1 M dX3_longest_1 ?_
  refine x_iconst (v := nI 0) M dX3_longest_2 (by decide +kernel) ?_
  refine x_istore2 M dX3_longest_3 ?_
  exact loop (B 0 0) 0 (by omega) _ _
end XM
