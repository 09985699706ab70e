/-! the class's methods: the end of a minute, a minute, pass -/
section XM
variable {l : Launch} {D : va_G} {kc : Nat → ClassId} {A : Nat → Prop} {ad : Nat → Nat} {X B : St} {hf : Nat → Int64} {ex : va_W}
theorem redr_0 (S : St) (i k : Nat) : redr S i 0 k = S 0 k := by
  unfold redr
  split
  · rfl
  · split <;> rfl
theorem answ_0 (S : St) (i k : Nat) : answ S i 0 k = S 0 k := by
  unfold answ
  split <;> rfl
theorem sen_0 (S : St) (i k : Nat) : sen S i 0 k = S 0 k := by
  unfold sen sen1
  split
  · rfl
  · split
    · rw [answ_0, redr_0]; rfl
    · rfl
theorem slot_0 (S : St) (k : Nat) : (slot S).1 0 k = S 0 k := by
  unfold slot
  split
  · rfl
  · exact sen_0 S _ k
theorem slot_n {S : St} (h : nxt S (S 0 0) = none) : slot S = (S, 0) := by unfold slot; rw [h]
theorem slot_s {S : St} {j : Nat} (h : nxt S (S 0 0) = some j) : slot S = (sen S j, 1) := by unfold slot; rw [h]
theorem mnt_0 (S : St) : (mnt S).1 0 0 = S 0 0 := by
  show (slot (slot (tick S)).1).1 0 0 = S 0 0
  rw [slot_0, slot_0]; rfl
theorem mnt_t (S : St) : (mnt S).1 0 1 = S 0 1 + 1 := by
  show (slot (slot (tick S)).1).1 0 1 = S 0 1 + 1
  rw [slot_0, slot_0]; rfl
theorem Ok_mnt {S : St} (h : Ok S) (ht : S 0 1 < 10000) : Ok (mnt S).1 := Ok_xem (Ok_slot (Ok_slot (Ok_tick h ht))) _
theorem mnts_ok {S : St} (h : Ok S) : ∀ k, S 0 1 + k ≤ 10000 → Ok (mnts S k).1 ∧ (mnts S k).1 0 1 = S 0 1 + k ∧ (mnts S k).1 0 0 = S 0 0
  | 0, _ => ⟨h, rfl, rfl⟩
  | k + 1, hk => by
    obtain ⟨h1, h2, h3⟩ := mnts_ok h k (by omega)
    exact ⟨Ok_mnt h1 (by omega), (mnt_t _).trans (by omega), (mnt_0 _).trans h3⟩
theorem mv_X2_endMinute : x_MV yX2_endMinute cX2_endMinute 2 none 0 := ⟨kw_357, kw_9, ⟨by decide +kernel, by decide +kernel⟩, by decide +kernel, kw_356, kw_7⟩
abbrev rm_X2_endMinute : Room := { frames := 2, cells := 0, slots := 0, locals := 45 }
set_option maxRecDepth 20000 in
set_option maxHeartbeats 2000000 in
theorem c_endMinute (hO : Ok X) : x_Ret l D kc A yX2_endMinute cX2_endMinute 2 none rm_X2_endMinute [.ref (ad 0)] (wl kc ad X B hf ex) (none) (wl kc ad (xem X (X 0 0)) B hf ex) := by
  refine x_ret_of RX2 (by decide +kernel) rfl [some (.ref (ad 0)), none] (Nat.le_of_ble_eq_true rfl) rfl rfl ?_
  intro p e s m args below meth c M hr hlk hnm TB hAA
  have hB : ∀ r i, X r i < 2 ^ 31 := fun r i => Nat.lt_trans (hO.bd r i) (by decide)
  have hn := hO.n
  have loop : ∀ (d k : Nat), k + d = X 0 0 → x_X p l e rm_X2_endMinute s m args below meth c D A 2 0 0 (MQ below (x_Qc D A (none) (wl kc ad (xem X (X 0 0)) B hf ex)) args s rm_X2_endMinute.cells rm_X2_endMinute.slots A) (wl kc ad (xem X k) B hf ex) 13 [some (.ref (ad 0)), some (.int (nI k))] [] := by
    intro d
    induction d with
    | zero =>
      intro k hk
      have hx := Ok_xem hO k
      have hB : ∀ r i, xem X k r i < 2 ^ 31 := fun r i => Nat.lt_trans (hx.bd r i) (by decide)
      have e0 : xem X k 0 0 = X 0 0 := rfl
      have h5 := hx.bd 5 k
      have hZ : Bd (up (xem X k) 5 k (xem X k 5 k - 1)) := Bd_up hx.bd (by omega)
      refine x_iload1 M dX2_endMinute_13 ?_
      refine x_aload0 M dX2_endMinute_14 ?_
      refine gX3 M TB kw_90 dX2_endMinute_15 ?_
      refine n_icmp_ge (tgt := 65) M (by first | omega | exact hB _ _) (by first | omega | exact hB _ _) dX2_endMinute_18 (by decide) (fun q18 => ?_) (fun q18 => absurd q18 (by omega))
      exact x_vret M hr hlk dX2_endMinute_65 ⟨by decide, by decide⟩ rfl (by rw [show k = X 0 0 by omega])
    | succ d ih =>
      intro k hk
      have hx := Ok_xem hO k
      have hB : ∀ r i, xem X k r i < 2 ^ 31 := fun r i => Nat.lt_trans (hx.bd r i) (by decide)
      have e0 : xem X k 0 0 = X 0 0 := rfl
      have h5 := hx.bd 5 k
      have hZ : Bd (up (xem X k) 5 k (xem X k 5 k - 1)) := Bd_up hx.bd (by omega)
      refine x_iload1 M dX2_endMinute_13 ?_
      refine x_aload0 M dX2_endMinute_14 ?_
      refine gX3 M TB kw_90 dX2_endMinute_15 ?_
      refine n_icmp_ge (tgt := 65) M (by first | omega | exact hB _ _) (by first | omega | exact hB _ _) dX2_endMinute_18 (by decide) (fun q18 => absurd q18 (by omega)) (fun q18 => ?_)
      refine x_aload0 M dX2_endMinute_21 ?_
      refine gX1 M TB kw_88 dX2_endMinute_22 ?_
      refine x_iload1 M dX2_endMinute_25 ?_
      refine aL M TB (by omega) dX2_endMinute_26 ?_
      refine x_callV0 M TB hAA mv_X0_listen kw_362 dX2_endMinute_27 (c_listen (X := xem X k) hx.bd (by omega)) rfl (wl_lab (by omega)) rfl rfl ⟨by decide, by decide⟩ ⟨by decide, by decide⟩ (Nat.le_of_ble_eq_true rfl) ?_
      refine x_aload0 M dX2_endMinute_30 ?_
      refine gX2 M TB kw_89 dX2_endMinute_31 ?_
      refine x_aload0 M dX2_endMinute_34 ?_
      refine gX4 M TB kw_91 dX2_endMinute_35 ?_
      refine x_aload0 M dX2_endMinute_38 ?_
      refine gX1 M TB kw_88 dX2_endMinute_39 ?_
      refine x_iload1 M dX2_endMinute_42 ?_
      refine aL (j := k) M TB (by omega) dX2_endMinute_43 ?_
      refine gL0 M TB (by omega) kw_55 dX2_endMinute_44 ?_
      refine x_aload0 M dX2_endMinute_47 ?_
      refine gX1 M TB kw_88 dX2_endMinute_48 ?_
      refine x_iload1 M dX2_endMinute_51 ?_
      refine aL (j := k) M TB (by omega) dX2_endMinute_52 ?_
      refine gL1 M TB (by omega) kw_57 dX2_endMinute_53 ?_
      refine x_callV0 M TB hAA mv_X1_note kw_366 dX2_endMinute_56 (c_note (X := (up (xem X k) 5 k (xem X k 5 k - 1))) hZ (t := X 0 1) (w := X 2 k) (v := X 3 k) (Nat.lt_trans (hO.bd 0 1) (by decide)) (hO.w k) (Nat.lt_trans (hO.bd 3 k) (by decide))) rfl wl_Y rfl rfl ⟨by decide, by decide⟩ ⟨by decide, by decide⟩ (Nat.le_of_ble_eq_true rfl) ?_
      refine n_inc1 M dX2_endMinute_59 ?_
      refine x_goto (tgt := 13) M dX2_endMinute_62 (by decide) ?_
      exact x_ws (by rw [xem_1 (hO.w k)]) (ih (k + 1) (by omega))
  refine x_aload0 M dX2_endMinute_0 ?_
  refine gX2 M TB kw_89 dX2_endMinute_1 ?_
  refine x_aload0 M dX2_endMinute_4 ?_
  refine gX4 M TB kw_91 dX2_endMinute_5 ?_
  refine x_callV0 M TB hAA mv_X1_openMinute kw_358 dX2_endMinute_8 (c_openMinute hO) rfl wl_Y rfl rfl ⟨by decide, by decide⟩ ⟨by decide, by decide⟩ (Nat.le_of_ble_eq_true rfl) ?_
  refine x_iconst (v := nI 0) M dX2_endMinute_11 (by decide +kernel) ?_
  refine x_istore1 M dX2_endMinute_12 ?_
  exact x_ws (by rw [xem_0 hO]) (loop (X 0 0) 0 (by omega))
theorem mv_X2_passOneMinute : x_MV yX2_passOneMinute cX2_passOneMinute 4 (some FieldType.int) 0 := ⟨kw_337, kw_9, ⟨by decide +kernel, by decide +kernel⟩, by decide +kernel, kw_336, kw_4⟩
abbrev rm_X2_passOneMinute : Room := { frames := 3, cells := 0, slots := 0, locals := 68 }
set_option maxRecDepth 20000 in
set_option maxHeartbeats 2000000 in
theorem c_passOneMinute (hO : Ok X) (ht0 : X 0 1 < 10000) : x_Ret l D kc A yX2_passOneMinute cX2_passOneMinute 4 (some FieldType.int) rm_X2_passOneMinute [.ref (ad 0)] (wl kc ad X B hf ex) (some (.int (nI (mnt X).2))) (wl kc ad ((mnt X).1) B hf ex) := by
  refine x_ret_of RX2 (by decide +kernel) rfl [some (.ref (ad 0)), none, none, none] (Nat.le_of_ble_eq_true rfl) rfl rfl ?_
  intro p e s m args below meth c M hr hlk hnm TB hAA
  have hB : ∀ r i, X r i < 2 ^ 31 := fun r i => Nat.lt_trans (hO.bd r i) (by decide)
  have J2 : ∀ (Z : St) (n0 : Nat), Ok Z → Z 0 0 = X 0 0 → xem Z (X 0 0) = (mnt X).1 → n0 = (mnt X).2 → ∀ b3 : Option Value, x_X p l e rm_X2_passOneMinute s m args below meth c D A 4 0 0 (MQ below (x_Qc D A (some (.int (nI (mnt X).2))) (wl kc ad ((mnt X).1) B hf ex)) args s rm_X2_passOneMinute.cells rm_X2_passOneMinute.slots A) (wl kc ad (Z) B hf ex) 14 [some (.ref (ad 0)), some (.int (nI n0)), some (.int (nI 2)), b3] [] := by
    intro Z n0 hOZ hz e1 e2 b3
    have hn := hOZ.n
    have ht := hOZ.t
    have hB : ∀ r i, Z r i < 2 ^ 31 := fun r i => Nat.lt_trans (hOZ.bd r i) (by decide)
    refine x_iload2 M dX2_passOneMinute_14 ?_
    refine x_iconst (v := nI 2) M dX2_passOneMinute_15 (by decide +kernel) ?_
    refine n_icmp_ge (tgt := 65) M (by first | omega | exact hB _ _) (by first | omega | exact hB _ _) dX2_passOneMinute_16 (by decide) (fun q16 => ?_) (fun q16 => absurd q16 (by omega))
    refine x_aload0 M dX2_passOneMinute_65 ?_
    refine x_callV0 M TB hAA mv_X2_endMinute kw_354 dX2_passOneMinute_66 (c_endMinute hOZ) rfl wl_X rfl rfl ⟨by decide, by decide⟩ ⟨by decide, by decide⟩ (Nat.le_of_ble_eq_true rfl) ?_
    refine x_iload1 M dX2_passOneMinute_69 ?_
    exact x_iret M hr hlk dX2_passOneMinute_70 ⟨by decide, by decide⟩ (by rw [e2]) (by rw [hz, e1])
  have J1 : ∀ (Z : St) (n0 : Nat), Ok Z → Z 0 0 = X 0 0 → xem (slot Z).1 (X 0 0) = (mnt X).1 → n0 + (slot Z).2 = (mnt X).2 → ∀ b3 : Option Value, x_X p l e rm_X2_passOneMinute s m args below meth c D A 4 0 0 (MQ below (x_Qc D A (some (.int (nI (mnt X).2))) (wl kc ad ((mnt X).1) B hf ex)) args s rm_X2_passOneMinute.cells rm_X2_passOneMinute.slots A) (wl kc ad (Z) B hf ex) 14 [some (.ref (ad 0)), some (.int (nI n0)), some (.int (nI 1)), b3] [] := by
    intro Z n0 hOZ hz e1 e2 b3
    have hn := hOZ.n
    have ht := hOZ.t
    have hB : ∀ r i, Z r i < 2 ^ 31 := fun r i => Nat.lt_trans (hOZ.bd r i) (by decide)
    cases hfo : nxt Z (Z 0 0) with
    | none =>
      rw [slot_n hfo] at e1 e2
      refine x_iload2 M dX2_passOneMinute_14 ?_
      refine x_iconst (v := nI 2) M dX2_passOneMinute_15 (by decide +kernel) ?_
      refine n_icmp_ge (tgt := 65) M (by first | omega | exact hB _ _) (by first | omega | exact hB _ _) dX2_passOneMinute_16 (by decide) (fun q16 => absurd q16 (by omega)) (fun q16 => ?_)
      refine x_aload0 M dX2_passOneMinute_19 ?_
      refine x_callV0 M TB hAA mv_X2_nextToSend kw_338 dX2_passOneMinute_20 (c_nextToSend hOZ.bd hn) rfl wl_X rfl rfl ⟨by decide, by decide⟩ ⟨by decide, by decide⟩ (Nat.le_of_ble_eq_true rfl) ?_
      rw [hfo]
      refine x_istore3 M dX2_passOneMinute_23 ?_
      refine x_iload3 M dX2_passOneMinute_24 ?_
      refine x_iconst (v := (-1)) M dX2_passOneMinute_25 (by decide +kernel) ?_
      refine x_icmp_eq (tgt := 59) M dX2_passOneMinute_26 (by decide) (fun q26 => ?_) (fun q26 => absurd rfl q26)
      refine n_inc2 M dX2_passOneMinute_59 ?_
      refine x_goto (tgt := 14) M dX2_passOneMinute_62 (by decide) ?_
      exact J2 Z n0 hOZ hz e1 e2 _
    | some j =>
      have hj := nxt_of hfo
      have hwj := hOZ.w j
      have hgj := hOZ.g j
      rw [slot_s hfo] at e1 e2
      refine x_iload2 M dX2_passOneMinute_14 ?_
      refine x_iconst (v := nI 2) M dX2_passOneMinute_15 (by decide +kernel) ?_
      refine n_icmp_ge (tgt := 65) M (by first | omega | exact hB _ _) (by first | omega | exact hB _ _) dX2_passOneMinute_16 (by decide) (fun q16 => absurd q16 (by omega)) (fun q16 => ?_)
      refine x_aload0 M dX2_passOneMinute_19 ?_
      refine x_callV0 M TB hAA mv_X2_nextToSend kw_338 dX2_passOneMinute_20 (c_nextToSend hOZ.bd hn) rfl wl_X rfl rfl ⟨by decide, by decide⟩ ⟨by decide, by decide⟩ (Nat.le_of_ble_eq_true rfl) ?_
      rw [hfo]
      refine x_istore3 M dX2_passOneMinute_23 ?_
      refine x_iload3 M dX2_passOneMinute_24 ?_
      refine x_iconst (v := (-1)) M dX2_passOneMinute_25 (by decide +kernel) ?_
      refine x_icmp_eq (tgt := 59) M dX2_passOneMinute_26 (by decide) (fun q26 => absurd q26 (nI_m1 (by omega))) (fun q26 => ?_)
      refine x_aload0 M dX2_passOneMinute_29 ?_
      refine gX1 M TB kw_88 dX2_passOneMinute_30 ?_
      refine x_iload3 M dX2_passOneMinute_33 ?_
      refine aL (j := j) M TB (by omega) dX2_passOneMinute_34 ?_
      refine x_aload0 M dX2_passOneMinute_35 ?_
      refine gX0 M TB kw_87 dX2_passOneMinute_36 ?_
      refine x_aload0 M dX2_passOneMinute_39 ?_
      refine gX1 M TB kw_88 dX2_passOneMinute_40 ?_
      refine x_iload3 M dX2_passOneMinute_43 ?_
      refine aL (j := j) M TB (by omega) dX2_passOneMinute_44 ?_
      refine gL0 M TB (by omega) kw_55 dX2_passOneMinute_45 ?_
      refine aP M TB (by omega) dX2_passOneMinute_48 ?_
      refine x_aload0 M dX2_passOneMinute_49 ?_
      refine gX4 M TB kw_91 dX2_passOneMinute_50 ?_
      refine x_callV0 M TB hAA mv_X0_getSending kw_339 dX2_passOneMinute_53 (c_getSending (X := Z) hOZ.bd (i := j) (by omega) (by omega) (hOZ.p _) (hOZ.s _) (by omega)) rfl (wl_lab (by omega)) rfl rfl ⟨by decide, by decide⟩ ⟨by decide, by decide⟩ (Nat.le_of_ble_eq_true rfl) ?_
      refine n_inc1 M dX2_passOneMinute_56 ?_
      refine n_inc2 M dX2_passOneMinute_59 ?_
      refine x_goto (tgt := 14) M dX2_passOneMinute_62 (by decide) ?_
      exact J2 (sen Z j) (n0 + 1) (Ok_sen hOZ j) ((sen_0 Z j 0).trans hz) e1 (by exact e2) _
  have J0 : ∀ (Z : St) (n0 : Nat), Ok Z → Z 0 0 = X 0 0 → xem (slot (slot Z).1).1 (X 0 0) = (mnt X).1 → n0 + (slot Z).2 + (slot (slot Z).1).2 = (mnt X).2 → ∀ b3 : Option Value, x_X p l e rm_X2_passOneMinute s m args below meth c D A 4 0 0 (MQ below (x_Qc D A (some (.int (nI (mnt X).2))) (wl kc ad ((mnt X).1) B hf ex)) args s rm_X2_passOneMinute.cells rm_X2_passOneMinute.slots A) (wl kc ad (Z) B hf ex) 14 [some (.ref (ad 0)), some (.int (nI n0)), some (.int (nI 0)), b3] [] := by
    intro Z n0 hOZ hz e1 e2 b3
    have hn := hOZ.n
    have ht := hOZ.t
    have hB : ∀ r i, Z r i < 2 ^ 31 := fun r i => Nat.lt_trans (hOZ.bd r i) (by decide)
    cases hfo : nxt Z (Z 0 0) with
    | none =>
      rw [slot_n hfo] at e1 e2
      refine x_iload2 M dX2_passOneMinute_14 ?_
      refine x_iconst (v := nI 2) M dX2_passOneMinute_15 (by decide +kernel) ?_
      refine n_icmp_ge (tgt := 65) M (by first | omega | exact hB _ _) (by first | omega | exact hB _ _) dX2_passOneMinute_16 (by decide) (fun q16 => absurd q16 (by omega)) (fun q16 => ?_)
      refine x_aload0 M dX2_passOneMinute_19 ?_
      refine x_callV0 M TB hAA mv_X2_nextToSend kw_338 dX2_passOneMinute_20 (c_nextToSend hOZ.bd hn) rfl wl_X rfl rfl ⟨by decide, by decide⟩ ⟨by decide, by decide⟩ (Nat.le_of_ble_eq_true rfl) ?_
      rw [hfo]
      refine x_istore3 M dX2_passOneMinute_23 ?_
      refine x_iload3 M dX2_passOneMinute_24 ?_
      refine x_iconst (v := (-1)) M dX2_passOneMinute_25 (by decide +kernel) ?_
      refine x_icmp_eq (tgt := 59) M dX2_passOneMinute_26 (by decide) (fun q26 => ?_) (fun q26 => absurd rfl q26)
      refine n_inc2 M dX2_passOneMinute_59 ?_
      refine x_goto (tgt := 14) M dX2_passOneMinute_62 (by decide) ?_
      exact J1 Z n0 hOZ hz e1 e2 _
    | some j =>
      have hj := nxt_of hfo
      have hwj := hOZ.w j
      have hgj := hOZ.g j
      rw [slot_s hfo] at e1 e2
      refine x_iload2 M dX2_passOneMinute_14 ?_
      refine x_iconst (v := nI 2) M dX2_passOneMinute_15 (by decide +kernel) ?_
      refine n_icmp_ge (tgt := 65) M (by first | omega | exact hB _ _) (by first | omega | exact hB _ _) dX2_passOneMinute_16 (by decide) (fun q16 => absurd q16 (by omega)) (fun q16 => ?_)
      refine x_aload0 M dX2_passOneMinute_19 ?_
      refine x_callV0 M TB hAA mv_X2_nextToSend kw_338 dX2_passOneMinute_20 (c_nextToSend hOZ.bd hn) rfl wl_X rfl rfl ⟨by decide, by decide⟩ ⟨by decide, by decide⟩ (Nat.le_of_ble_eq_true rfl) ?_
      rw [hfo]
      refine x_istore3 M dX2_passOneMinute_23 ?_
      refine x_iload3 M dX2_passOneMinute_24 ?_
      refine x_iconst (v := (-1)) M dX2_passOneMinute_25 (by decide +kernel) ?_
      refine x_icmp_eq (tgt := 59) M dX2_passOneMinute_26 (by decide) (fun q26 => absurd q26 (nI_m1 (by omega))) (fun q26 => ?_)
      refine x_aload0 M dX2_passOneMinute_29 ?_
      refine gX1 M TB kw_88 dX2_passOneMinute_30 ?_
      refine x_iload3 M dX2_passOneMinute_33 ?_
      refine aL (j := j) M TB (by omega) dX2_passOneMinute_34 ?_
      refine x_aload0 M dX2_passOneMinute_35 ?_
      refine gX0 M TB kw_87 dX2_passOneMinute_36 ?_
      refine x_aload0 M dX2_passOneMinute_39 ?_
      refine gX1 M TB kw_88 dX2_passOneMinute_40 ?_
      refine x_iload3 M dX2_passOneMinute_43 ?_
      refine aL (j := j) M TB (by omega) dX2_passOneMinute_44 ?_
      refine gL0 M TB (by omega) kw_55 dX2_passOneMinute_45 ?_
      refine aP M TB (by omega) dX2_passOneMinute_48 ?_
      refine x_aload0 M dX2_passOneMinute_49 ?_
      refine gX4 M TB kw_91 dX2_passOneMinute_50 ?_
      refine x_callV0 M TB hAA mv_X0_getSending kw_339 dX2_passOneMinute_53 (c_getSending (X := Z) hOZ.bd (i := j) (by omega) (by omega) (hOZ.p _) (hOZ.s _) (by omega)) rfl (wl_lab (by omega)) rfl rfl ⟨by decide, by decide⟩ ⟨by decide, by decide⟩ (Nat.le_of_ble_eq_true rfl) ?_
      refine n_inc1 M dX2_passOneMinute_56 ?_
      refine n_inc2 M dX2_passOneMinute_59 ?_
      refine x_goto (tgt := 14) M dX2_passOneMinute_62 (by decide) ?_
      exact J1 (sen Z j) (n0 + 1) (Ok_sen hOZ j) ((sen_0 Z j 0).trans hz) e1 (by exact e2) _
  refine x_aload0 M dX2_passOneMinute_0 ?_
  refine x_dup M dX2_passOneMinute_1 rfl ?_
  refine gX4 M TB kw_91 dX2_passOneMinute_2 ?_
  refine x_iconst (v := nI 1) M dX2_passOneMinute_5 (by decide +kernel) ?_
  refine n_add M dX2_passOneMinute_6 ?_
  refine pX4 M TB kw_91 dX2_passOneMinute_7 ?_
  refine x_iconst (v := nI 0) M dX2_passOneMinute_10 (by decide +kernel) ?_
  refine x_istore1 M dX2_passOneMinute_11 ?_
  refine x_iconst (v := nI 0) M dX2_passOneMinute_12 (by decide +kernel) ?_
  refine x_istore2 M dX2_passOneMinute_13 ?_
  exact J0 (tick X) 0 (Ok_tick hO ht0) rfl rfl (by show 0 + _ + _ = _ + _; omega) _
theorem mv_X2_pass : x_MV yX2_pass cX2_pass 4 (some FieldType.int) 1 := ⟨kw_332, kw_9, ⟨by decide +kernel, by decide +kernel⟩, by decide +kernel, kw_330, kw_331⟩
abbrev rm_X2_pass : Room := { frames := 4, cells := 0, slots := 0, locals := 91 }
set_option maxRecDepth 20000 in
set_option maxHeartbeats 2000000 in
theorem c_pass (hO : Ok X) {n : Nat} (h1 : 1 ≤ n) (h2 : n ≤ 200) (ht0 : X 0 1 + n ≤ 10000) : x_Ret l D kc A yX2_pass cX2_pass 4 (some FieldType.int) rm_X2_pass [.ref (ad 0), .int (nI n)] (wl kc ad X B hf ex) (some (.int (nI (mnts X n).2))) (wl kc ad ((mnts X n).1) B hf ex) := by
  refine x_ret_of RX2 (by decide +kernel) rfl [some (.ref (ad 0)), some (.int (nI n)), none, none] (Nat.le_of_ble_eq_true rfl) rfl rfl ?_
  intro p e s m args below meth c M hr hlk hnm TB hAA
  have hB : ∀ r i, X r i < 2 ^ 31 := fun r i => Nat.lt_trans (hO.bd r i) (by decide)
  have loop : ∀ (d k : Nat), k + d = n → x_X p l e rm_X2_pass s m args below meth c D A 4 0 0 (MQ below (x_Qc D A (some (.int (nI (mnts X n).2))) (wl kc ad ((mnts X n).1) B hf ex)) args s rm_X2_pass.cells rm_X2_pass.slots A) (wl kc ad ((mnts X k).1) B hf ex) 34 [some (.ref (ad 0)), some (.int (nI n)), some (.int (nI (mnts X k).2)), some (.int (nI k))] [] := by
    intro d
    induction d with
    | zero =>
      intro k hk
      obtain ⟨hk1, hk2, hk3⟩ := mnts_ok hO k (by omega)
      refine x_iload3 M dX2_pass_34 ?_
      refine x_iload1 M dX2_pass_35 ?_
      refine n_icmp_ge (tgt := 52) M (by first | omega | exact hB _ _) (by first | omega | exact hB _ _) dX2_pass_36 (by decide) (fun q36 => ?_) (fun q36 => absurd q36 (by omega))
      refine x_iload2 M dX2_pass_52 ?_
      exact x_iret M hr hlk dX2_pass_53 ⟨by decide, by decide⟩ (by rw [show k = n by omega]) (by rw [show k = n by omega])
    | succ d ih =>
      intro k hk
      obtain ⟨hk1, hk2, hk3⟩ := mnts_ok hO k (by omega)
      refine x_iload3 M dX2_pass_34 ?_
      refine x_iload1 M dX2_pass_35 ?_
      refine n_icmp_ge (tgt := 52) M (by first | omega | exact hB _ _) (by first | omega | exact hB _ _) dX2_pass_36 (by decide) (fun q36 => absurd q36 (by omega)) (fun q36 => ?_)
      refine x_iload2 M dX2_pass_39 ?_
      refine x_aload0 M dX2_pass_40 ?_
      refine x_callV0 M TB hAA mv_X2_passOneMinute kw_334 dX2_pass_41 (c_passOneMinute (X := (mnts X k).1) hk1 (by omega)) rfl wl_X rfl rfl ⟨by decide, by decide⟩ ⟨by decide, by decide⟩ (Nat.le_of_ble_eq_true rfl) ?_
      refine n_add M dX2_pass_44 ?_
      refine x_istore2 M dX2_pass_45 ?_
      refine n_inc3 M dX2_pass_46 ?_
      refine x_goto (tgt := 34) M dX2_pass_49 (by decide) ?_
      exact ih (k + 1) (by omega)
  refine x_iload1 M dX2_pass_0 ?_
  refine x_iconst (v := nI 1) M dX2_pass_1 (by decide +kernel) ?_
  refine x_sipush (v := nI 200) M dX2_pass_2 (by decide +kernel) ?_
  refine x_callS0 M TB hAA mv_X2_needWithin kw_282 dX2_pass_5 (c_needWithin h1 h2 (by decide)) rfl ⟨by decide, by decide⟩ ⟨by decide, by decide⟩ (Nat.le_of_ble_eq_true rfl) ?_
  refine x_aload0 M dX2_pass_8 ?_
  refine gX4 M TB kw_91 dX2_pass_9 ?_
  refine x_iload1 M dX2_pass_12 ?_
  refine n_add M dX2_pass_13 ?_
  refine x_sipush (v := nI 10000) M dX2_pass_14 (by decide +kernel) ?_
  refine n_icmp_le (tgt := 30) M (by first | omega | exact hB _ _) (by first | omega | exact hB _ _) dX2_pass_17 (by decide) (fun q17 => ?_) (fun q17 => absurd ht0 (by omega))
  refine x_iconst (v := nI 0) M dX2_pass_30 (by decide +kernel) ?_
  refine x_istore2 M dX2_pass_31 ?_
  refine x_iconst (v := nI 0) M dX2_pass_32 (by decide +kernel) ?_
  refine x_istore3 M dX2_pass_33 ?_
  exact loop n 0 (by omega)
end XM
