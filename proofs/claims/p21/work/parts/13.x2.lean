/-! the class's methods: the memory, the radio, a minute -/
section XM
variable {l : Launch} {D : va_G} {kc : Nat → ClassId} {A : Nat → Prop} {ad : Nat → Nat} {X B : St} {hf : Nat → Int64} {ex : va_W}
theorem l_set1 {α : Type} {xs : List α} {q : Nat} {x : α} (h : xs[q]? = some x) : xs.set q x = xs := by
  refine List.ext_getElem? fun k => ?_
  by_cases e : q = k
  · subst e
    rw [List.getElem?_set_self', h]
    rfl
  · rw [List.getElem?_set_ne e]
theorem fw0 {ws : va_W} {q0 a n : Nat} {c : ClassId} {f : Nat → Int32} {x : Int32} (ha : ws[q0]? = some (a, .inl (c, n, .inl f))) : ws = ws.set q0 (a, .inl (c, n, .inl (fun j => if j < 0 then x else f j))) := by
  have e : (fun j => if j < 0 then x else f j) = f := funext fun j => if_neg (Nat.not_lt_zero j)
  rw [e, l_set1 ha]
theorem fwg {ws : va_W} {q0 : Nat} {y x : Nat × va_E} (ha : ws[q0]? = some x) : (ws.set q0 y)[q0]? = some y := by rw [List.getElem?_set_self', ha]; rfl
theorem fw1 {ws : va_W} {q0 a n k : Nat} {c : ClassId} {f : Nat → Int32} {x : Int32} : (ws.set q0 (a, .inl (c, n, .inl (fun j => if j < k then x else f j)))).set q0 (a, .inl (c, n, .inl (upd (fun j => if j < k then x else f j) k x))) = ws.set q0 (a, .inl (c, n, .inl (fun j => if j < k + 1 then x else f j))) := by
  rw [List.set_set]
  have e : upd (fun j => if j < k then x else f j) k x = (fun j => if j < k + 1 then x else f j) := funext fun j => by
    unfold upd
    by_cases h : j = k
    · rw [if_pos h, if_pos (by omega)]
    · rw [if_neg h]
      show (if j < k then x else f j) = _
      by_cases h2 : j < k
      · rw [if_pos h2, if_pos (by omega)]
      · rw [if_neg h2, if_neg (by omega)]
  rw [e]
theorem mv_J7_fill_53178 : x_MS yJ7_fill_53178 cJ7_fill_53178 4 none 2 := ⟨kw_40, kw_11, ⟨by decide +kernel, by decide +kernel⟩, by decide +kernel, kw_39⟩
abbrev rm_J7_fill_53178 : Room := { frames := 0, cells := 0, slots := 0, locals := 0 }
set_option maxRecDepth 20000 in
set_option maxHeartbeats 2000000 in
theorem c_fill {ws : va_W} {q0 a n : Nat} {f : Nat → Int32} {x : Int32} (ha : ws[q0]? = some (a, .inl (kc 0, n, .inl f))) (hn : n < 2 ^ 20) : x_Ret l D kc A yJ7_fill_53178 cJ7_fill_53178 4 none rm_J7_fill_53178 [.ref a, .int x] (ws) (none) (ws.set q0 (a, .inl (kc 0, n, .inl (fun j => if j < n then x else f j)))) := by
  refine x_ret_of RJ7 (by decide +kernel) rfl [some (.ref a), some (.int x), none, none] (Nat.le_of_ble_eq_true rfl) rfl rfl ?_
  intro p e s m args below meth c M hr hlk hnm TB hAA
  have loop : ∀ (d k : Nat), k + d = n → x_X p l e rm_J7_fill_53178 s m args below meth c D A 4 0 0 (MQ below (x_Qc D A (none) (ws.set q0 (a, .inl (kc 0, n, .inl (fun j => if j < n then x else f j))))) args s rm_J7_fill_53178.cells rm_J7_fill_53178.slots A) (ws.set q0 (a, .inl (kc 0, n, .inl (fun j => if j < k then x else f j)))) 5 [some (.ref a), some (.int x), some (.int (nI k)), some (.int (nI n))] [] := by
    intro d
    induction d with
    | zero =>
      intro k hk
      have e : k = n := by omega
      subst e
      refine x_iload2 M dJ7_fill_53178_5 ?_
      refine x_iload3 M dJ7_fill_53178_6 ?_
      refine n_icmp_ge (tgt := 20) M (by first | omega | exact hB _ _) (by first | omega | exact hB _ _) dJ7_fill_53178_7 (by decide) (fun q7 => ?_) (fun q7 => absurd q7 (by omega))
      exact x_vret M hr hlk dJ7_fill_53178_20 ⟨by decide, by decide⟩ rfl rfl
    | succ d ih =>
      intro k hk
      refine x_iload2 M dJ7_fill_53178_5 ?_
      refine x_iload3 M dJ7_fill_53178_6 ?_
      refine n_icmp_ge (tgt := 20) M (by first | omega | exact hB _ _) (by first | omega | exact hB _ _) dJ7_fill_53178_7 (by decide) (fun q7 => absurd q7 (by omega)) (fun q7 => ?_)
      refine x_aload0 M dJ7_fill_53178_10 ?_
      refine x_iload2 M dJ7_fill_53178_11 ?_
      refine x_iload1 M dJ7_fill_53178_12 ?_
      refine x_iast M TB (fwg ha) (by omega) (by omega) dJ7_fill_53178_13 ?_
      refine n_inc2 M dJ7_fill_53178_14 ?_
      refine x_goto (tgt := 5) M dJ7_fill_53178_17 (by decide) ?_
      exact x_ws fw1 (ih (k + 1) (by omega))
  refine x_iconst (v := nI 0) M dJ7_fill_53178_0 (by decide +kernel) ?_
  refine x_istore2 M dJ7_fill_53178_1 ?_
  refine x_aload0 M dJ7_fill_53178_2 ?_
  refine x_alen M TB (t0 := 0) ha rfl dJ7_fill_53178_3 ?_
  refine x_istore3 M dJ7_fill_53178_4 ?_
  exact x_ws (fw0 ha) (loop n 0 (by omega))
theorem wl_opn {r : Nat} (hr : X 0 1 % 60 = r) : (wl kc ad X B hf ex).set (20 + r) (ad (20 + r), .inl (kc 0, 12, .inl (fun j => if j < 12 then nI 10000 else nI (X 10 (60 * j + r))))) = wl kc ad (opn X) B hf ex := by
  have hq : X 0 1 % 60 < 60 := Nat.mod_lt _ (by decide)
  refine wl_set (by omega) ?_ ?_
  · rw [ct_row (by omega)]
    refine congrArg (fun f => (Sum.inl (kc 0, 12, Sum.inl f) : va_E)) (funext fun k => ?_)
    unfold opn
    rw [if_pos rfl]
    by_cases h : k < 12
    · rw [if_pos h, if_pos (by omega)]
    · rw [if_neg h, if_neg (by omega)]
  · intro c2 h1 h2
    unfold ct
    split
    · unfold ctS
      split <;> rfl
    · split
      · rfl
      · refine congrArg (fun f => (Sum.inl (kc 0, 12, Sum.inl f) : va_E)) (funext fun k => ?_)
        unfold opn
        rw [if_pos rfl, if_neg (by omega)]
theorem mv_X1_openMinute : x_MV yX1_openMinute cX1_openMinute 2 none 1 := ⟨kw_361, kw_10, ⟨by decide +kernel, by decide +kernel⟩, by decide +kernel, kw_359, kw_360⟩
abbrev rm_X1_openMinute : Room := { frames := 1, cells := 0, slots := 0, locals := 23 }
set_option maxRecDepth 20000 in
set_option maxHeartbeats 2000000 in
theorem c_openMinute (hO : Ok X) : x_Ret l D kc A yX1_openMinute cX1_openMinute 2 none rm_X1_openMinute [.ref (ad 3), .int (nI (X 0 1))] (wl kc ad X B hf ex) (none) (wl kc ad (opn X) B hf ex) := by
  refine x_ret_of RX1 (by decide +kernel) rfl [some (.ref (ad 3)), some (.int (nI (X 0 1)))] (Nat.le_of_ble_eq_true rfl) rfl rfl ?_
  intro p e s m args below meth c M hr hlk hnm TB hAA
  have hB : ∀ r i, X r i < 2 ^ 31 := fun r i => Nat.lt_trans (hO.bd r i) (by decide)
  have hq : X 0 1 % 60 < 60 := Nat.mod_lt _ (by decide)
  refine x_aload0 M dX1_openMinute_0 ?_
  refine gY0 M TB kw_41 dX1_openMinute_1 ?_
  refine x_iload1 M dX1_openMinute_4 ?_
  refine x_bipush (v := nI 60) M dX1_openMinute_5 (by decide +kernel) ?_
  refine n_rem M (by first | omega | exact hB _ _) (by omega) (by first | omega | exact hB _ _) dX1_openMinute_7 ?_
  refine aO M TB (by omega) dX1_openMinute_8 ?_
  refine x_sipush (v := nI 10000) M dX1_openMinute_9 (by decide +kernel) ?_
  refine x_callS0 M TB hAA mv_J7_fill_53178 kw_38 dX1_openMinute_12 (c_fill (wl_row hq) (by decide)) rfl ⟨by decide, by decide⟩ ⟨by decide, by decide⟩ (Nat.le_of_ble_eq_true rfl) ?_
  exact x_vret M hr hlk dX1_openMinute_15 ⟨by decide, by decide⟩ rfl (wl_opn rfl)
theorem mv_X1_note : x_MV yX1_note cX1_note 5 none 3 := ⟨kw_369, kw_10, ⟨by decide +kernel, by decide +kernel⟩, by decide +kernel, kw_367, kw_368⟩
abbrev rm_X1_note : Room := { frames := 1, cells := 0, slots := 0, locals := 21 }
set_option maxRecDepth 20000 in
set_option maxHeartbeats 2000000 in
theorem c_note (hB0 : Bd X) {t w v : Nat} (ht : t < 2 ^ 31) (hw12 : w < 12) (hv : v < 2 ^ 31) : x_Ret l D kc A yX1_note cX1_note 5 none rm_X1_note [.ref (ad 3), .int (nI t), .int (nI w), .int (nI v)] (wl kc ad X B hf ex) (none) (wl kc ad (up (up X 10 (60 * w + t % 60) (min (X 10 (60 * w + t % 60)) v)) 11 w (min (X 11 w) v)) B hf ex) := by
  refine x_ret_of RX1 (by decide +kernel) rfl [some (.ref (ad 3)), some (.int (nI t)), some (.int (nI w)), some (.int (nI v)), none] (Nat.le_of_ble_eq_true rfl) rfl rfl ?_
  intro p e s m args below meth c M hr hlk hnm TB hAA
  have hB : ∀ r i, X r i < 2 ^ 31 := fun r i => Nat.lt_trans (hB0 r i) (by decide)
  have hq : t % 60 < 60 := Nat.mod_lt _ (by decide)
  refine x_aload0 M dX1_note_0 ?_
  refine gY0 M TB kw_41 dX1_note_1 ?_
  refine x_iload1 M dX1_note_4 ?_
  refine x_bipush (v := nI 60) M dX1_note_5 (by decide +kernel) ?_
  refine n_rem M (by first | omega | exact hB _ _) (by omega) (by first | omega | exact hB _ _) dX1_note_7 ?_
  refine aO M TB (by omega) dX1_note_8 ?_
  refine x_astore4 M dX1_note_9 ?_
  refine x_aload4 M dX1_note_11 ?_
  refine x_iload2 M dX1_note_13 ?_
  refine x_aload4 M dX1_note_14 ?_
  refine x_iload2 M dX1_note_16 ?_
  refine aW M TB (by omega) (by omega) dX1_note_17 ?_
  refine x_iload3 M dX1_note_18 ?_
  refine x_min M (by first | omega | exact hB _ _) (by first | omega | exact hB _ _) kw_212 ⟨by decide, by decide⟩ ⟨by decide, by decide⟩ (Nat.le_of_ble_eq_true rfl) dX1_note_19 ?_
  refine sW M TB (by omega) (by omega) dX1_note_22 ?_
  refine x_aload0 M dX1_note_23 ?_
  refine gY1 M TB kw_42 dX1_note_24 ?_
  refine x_iload2 M dX1_note_27 ?_
  refine x_aload0 M dX1_note_28 ?_
  refine gY1 M TB kw_42 dX1_note_29 ?_
  refine x_iload2 M dX1_note_32 ?_
  refine aE M TB (by omega) dX1_note_33 ?_
  refine x_iload3 M dX1_note_34 ?_
  refine x_min M (by first | omega | exact hB _ _) (by first | omega | exact hB _ _) kw_212 ⟨by decide, by decide⟩ ⟨by decide, by decide⟩ (Nat.le_of_ble_eq_true rfl) dX1_note_35 ?_
  refine sE M TB (by omega) dX1_note_38 ?_
  exact x_vret M hr hlk dX1_note_39 ⟨by decide, by decide⟩ rfl rfl
theorem mv_X1_leastOfAllTime : x_MV yX1_leastOfAllTime cX1_leastOfAllTime 2 (some FieldType.int) 1 := ⟨kw_220, kw_10, ⟨by decide +kernel, by decide +kernel⟩, by decide +kernel, kw_218, kw_219⟩
abbrev rm_X1_leastOfAllTime : Room := { frames := 0, cells := 0, slots := 0, locals := 0 }
set_option maxRecDepth 20000 in
set_option maxHeartbeats 2000000 in
theorem c_leastOfAllTime {w : Nat} (hw12 : w < 12) : x_Ret l D kc A yX1_leastOfAllTime cX1_leastOfAllTime 2 (some FieldType.int) rm_X1_leastOfAllTime [.ref (ad 3), .int (nI w)] (wl kc ad X B hf ex) (some (.int (nI (X 11 w)))) (wl kc ad X B hf ex) := by
  refine x_ret_of RX1 (by decide +kernel) rfl [some (.ref (ad 3)), some (.int (nI w))] (Nat.le_of_ble_eq_true rfl) rfl rfl ?_
  intro p e s m args below meth c M hr hlk hnm TB hAA
  refine x_aload0 M dX1_leastOfAllTime_0 ?_
  refine gY1 M TB kw_42 dX1_leastOfAllTime_1 ?_
  refine x_iload1 M dX1_leastOfAllTime_4 ?_
  refine aE M TB (by omega) dX1_leastOfAllTime_5 ?_
  exact x_iret M hr hlk dX1_leastOfAllTime_6 ⟨by decide, by decide⟩ rfl rfl
theorem mv_X1_leastOfLastHour : x_MV yX1_leastOfLastHour cX1_leastOfLastHour 4 (some FieldType.int) 1 := ⟨kw_211, kw_10, ⟨by decide +kernel, by decide +kernel⟩, by decide +kernel, kw_209, kw_210⟩
abbrev rm_X1_leastOfLastHour : Room := { frames := 1, cells := 0, slots := 0, locals := 21 }
set_option maxRecDepth 20000 in
set_option maxHeartbeats 2000000 in
theorem c_leastOfLastHour (hB0 : Bd X) {w : Nat} (hw12 : w < 12) : x_Ret l D kc A yX1_leastOfLastHour cX1_leastOfLastHour 4 (some FieldType.int) rm_X1_leastOfLastHour [.ref (ad 3), .int (nI w)] (wl kc ad X B hf ex) (some (.int (nI (lhr X w 60)))) (wl kc ad X B hf ex) := by
  refine x_ret_of RX1 (by decide +kernel) rfl [some (.ref (ad 3)), some (.int (nI w)), none, none] (Nat.le_of_ble_eq_true rfl) rfl rfl ?_
  intro p e s m args below meth c M hr hlk hnm TB hAA
  have hB : ∀ r i, X r i < 2 ^ 31 := fun r i => Nat.lt_trans (hB0 r i) (by decide)
  have loop : ∀ (d k : Nat), k + d = 60 → x_X p l e rm_X1_leastOfLastHour s m args below meth c D A 4 0 0 (MQ below (x_Qc D A (some (.int (nI (lhr X w 60)))) (wl kc ad X B hf ex)) args s rm_X1_leastOfLastHour.cells rm_X1_leastOfLastHour.slots A) (wl kc ad X B hf ex) 6 [some (.ref (ad 3)), some (.int (nI w)), some (.int (nI (lhr X w k))), some (.int (nI k))] [] := by
    intro d
    induction d with
    | zero =>
      intro k hk
      have hl := lhr_le X w k
      refine x_iload3 M dX1_leastOfLastHour_6 ?_
      refine x_bipush (v := nI 60) M dX1_leastOfLastHour_7 (by decide +kernel) ?_
      refine n_icmp_ge (tgt := 31) M (by first | omega | exact hB _ _) (by first | omega | exact hB _ _) dX1_leastOfLastHour_9 (by decide) (fun q9 => ?_) (fun q9 => absurd q9 (by omega))
      refine x_iload2 M dX1_leastOfLastHour_31 ?_
      exact x_iret M hr hlk dX1_leastOfLastHour_32 ⟨by decide, by decide⟩ (by rw [show k = 60 by omega]) rfl
    | succ d ih =>
      intro k hk
      have hl := lhr_le X w k
      refine x_iload3 M dX1_leastOfLastHour_6 ?_
      refine x_bipush (v := nI 60) M dX1_leastOfLastHour_7 (by decide +kernel) ?_
      refine n_icmp_ge (tgt := 31) M (by first | omega | exact hB _ _) (by first | omega | exact hB _ _) dX1_leastOfLastHour_9 (by decide) (fun q9 => absurd q9 (by omega)) (fun q9 => ?_)
      refine x_iload2 M dX1_leastOfLastHour_12 ?_
      refine x_aload0 M dX1_leastOfLastHour_13 ?_
      refine gY0 M TB kw_41 dX1_leastOfLastHour_14 ?_
      refine x_iload3 M dX1_leastOfLastHour_17 ?_
      refine aO M TB (by omega) dX1_leastOfLastHour_18 ?_
      refine x_iload1 M dX1_leastOfLastHour_19 ?_
      refine aW M TB (by omega) (by omega) dX1_leastOfLastHour_20 ?_
      refine x_min M (by first | omega | exact hB _ _) (by first | omega | exact hB _ _) kw_212 ⟨by decide, by decide⟩ ⟨by decide, by decide⟩ (Nat.le_of_ble_eq_true rfl) dX1_leastOfLastHour_21 ?_
      refine x_istore2 M dX1_leastOfLastHour_24 ?_
      refine n_inc3 M dX1_leastOfLastHour_25 ?_
      refine x_goto (tgt := 6) M dX1_leastOfLastHour_28 (by decide) ?_
      exact ih (k + 1) (by omega)
  refine x_sipush (v := nI 10000) M dX1_leastOfLastHour_0 (by decide +kernel) ?_
  refine x_istore2 M dX1_leastOfLastHour_3 ?_
  refine x_iconst (v := nI 0) M dX1_leastOfLastHour_4 (by decide +kernel) ?_
  refine x_istore3 M dX1_leastOfLastHour_5 ?_
  exact loop 60 0 (by omega)
theorem mv_X2_leastShownNow : x_MV yX2_leastShownNow cX2_leastShownNow 4 (some FieldType.int) 1 := ⟨kw_204, kw_9, ⟨by decide +kernel, by decide +kernel⟩, by decide +kernel, kw_203, kw_1⟩
abbrev rm_X2_leastShownNow : Room := { frames := 1, cells := 0, slots := 0, locals := 21 }
set_option maxRecDepth 20000 in
set_option maxHeartbeats 2000000 in
theorem c_leastShownNow (hB0 : Bd X) (hn : X 0 0 ≤ 12) {w : Nat} (hw12 : w < 12) : x_Ret l D kc A yX2_leastShownNow cX2_leastShownNow 4 (some FieldType.int) rm_X2_leastShownNow [.ref (ad 0), .int (nI w)] (wl kc ad X B hf ex) (some (.int (nI (lnow X w (X 0 0))))) (wl kc ad X B hf ex) := by
  refine x_ret_of RX2 (by decide +kernel) rfl [some (.ref (ad 0)), some (.int (nI w)), none, none] (Nat.le_of_ble_eq_true rfl) rfl rfl ?_
  intro p e s m args below meth c M hr hlk hnm TB hAA
  have hB : ∀ r i, X r i < 2 ^ 31 := fun r i => Nat.lt_trans (hB0 r i) (by decide)
  have loop : ∀ (d k : Nat), k + d = X 0 0 → x_X p l e rm_X2_leastShownNow s m args below meth c D A 4 0 0 (MQ below (x_Qc D A (some (.int (nI (lnow X w (X 0 0))))) (wl kc ad X B hf ex)) args s rm_X2_leastShownNow.cells rm_X2_leastShownNow.slots A) (wl kc ad X B hf ex) 6 [some (.ref (ad 0)), some (.int (nI w)), some (.int (nI (lnow X w k))), some (.int (nI k))] [] := by
    intro d
    induction d with
    | zero =>
      intro k hk
      have hl := lnow_le X w k
      refine x_iload3 M dX2_leastShownNow_6 ?_
      refine x_aload0 M dX2_leastShownNow_7 ?_
      refine gX3 M TB kw_90 dX2_leastShownNow_8 ?_
      refine n_icmp_ge (tgt := 47) M (by first | omega | exact hB _ _) (by first | omega | exact hB _ _) dX2_leastShownNow_11 (by decide) (fun q11 => ?_) (fun q11 => absurd q11 (by omega))
      refine x_iload2 M dX2_leastShownNow_47 ?_
      exact x_iret M hr hlk dX2_leastShownNow_48 ⟨by decide, by decide⟩ (by rw [show k = X 0 0 by omega]) rfl
    | succ d ih =>
      intro k hk
      have hl := lnow_le X w k
      refine x_iload3 M dX2_leastShownNow_6 ?_
      refine x_aload0 M dX2_leastShownNow_7 ?_
      refine gX3 M TB kw_90 dX2_leastShownNow_8 ?_
      refine n_icmp_ge (tgt := 47) M (by first | omega | exact hB _ _) (by first | omega | exact hB _ _) dX2_leastShownNow_11 (by decide) (fun q11 => absurd q11 (by omega)) (fun q11 => ?_)
      refine x_aload0 M dX2_leastShownNow_14 ?_
      refine gX1 M TB kw_88 dX2_leastShownNow_15 ?_
      refine x_iload3 M dX2_leastShownNow_18 ?_
      refine aL M TB (by omega) dX2_leastShownNow_19 ?_
      refine gL0 M TB (by omega) kw_55 dX2_leastShownNow_20 ?_
      refine x_iload1 M dX2_leastShownNow_23 ?_
      refine n_icmp_ne (tgt := 41) M (by first | omega | exact hB _ _) (by first | omega | exact hB _ _) dX2_leastShownNow_24 (by decide) (fun q24 => ?_) (fun q24 => ?_)
      · refine n_inc3 M dX2_leastShownNow_41 ?_
        refine x_goto (tgt := 6) M dX2_leastShownNow_44 (by decide) ?_
        have h9 := ih (k + 1) (by omega)
        rw [lnow_n q24] at h9
        exact h9
      · refine x_iload2 M dX2_leastShownNow_27 ?_
        refine x_aload0 M dX2_leastShownNow_28 ?_
        refine gX1 M TB kw_88 dX2_leastShownNow_29 ?_
        refine x_iload3 M dX2_leastShownNow_32 ?_
        refine aL M TB (by omega) dX2_leastShownNow_33 ?_
        refine gL1 M TB (by omega) kw_57 dX2_leastShownNow_34 ?_
        refine x_min M (by first | omega | exact hB _ _) (by first | omega | exact hB _ _) kw_205 ⟨by decide, by decide⟩ ⟨by decide, by decide⟩ (Nat.le_of_ble_eq_true rfl) dX2_leastShownNow_37 ?_
        refine x_istore2 M dX2_leastShownNow_40 ?_
        refine n_inc3 M dX2_leastShownNow_41 ?_
        refine x_goto (tgt := 6) M dX2_leastShownNow_44 (by decide) ?_
        have h9 := ih (k + 1) (by omega)
        rw [lnow_w q24] at h9
        exact h9
  refine x_sipush (v := nI 10000) M dX2_leastShownNow_0 (by decide +kernel) ?_
  refine x_istore2 M dX2_leastShownNow_3 ?_
  refine x_iconst (v := nI 0) M dX2_leastShownNow_4 (by decide +kernel) ?_
  refine x_istore3 M dX2_leastShownNow_5 ?_
  exact loop (X 0 0) 0 (by omega)
theorem mv_X2_nextToSend : x_MV yX2_nextToSend cX2_nextToSend 3 (some FieldType.int) 0 := ⟨kw_117, kw_9, ⟨by decide +kernel, by decide +kernel⟩, by decide +kernel, kw_115, kw_116⟩
abbrev rm_X2_nextToSend : Room := { frames := 1, cells := 0, slots := 0, locals := 21 }
set_option maxRecDepth 20000 in
set_option maxHeartbeats 2000000 in
theorem c_nextToSend (hB0 : Bd X) (hn : X 0 0 ≤ 12) : x_Ret l D kc A yX2_nextToSend cX2_nextToSend 3 (some FieldType.int) rm_X2_nextToSend [.ref (ad 0)] (wl kc ad X B hf ex) (some (.int (oI (nxt X (X 0 0))))) (wl kc ad X B hf ex) := by
  refine x_ret_of RX2 (by decide +kernel) rfl [some (.ref (ad 0)), none, none] (Nat.le_of_ble_eq_true rfl) rfl rfl ?_
  intro p e s m args below meth c M hr hlk hnm TB hAA
  have hB : ∀ r i, X r i < 2 ^ 31 := fun r i => Nat.lt_trans (hB0 r i) (by decide)
  have loop : ∀ (d k : Nat), k + d = X 0 0 → x_X p l e rm_X2_nextToSend s m args below meth c D A 3 0 0 (MQ below (x_Qc D A (some (.int (oI (nxt X (X 0 0))))) (wl kc ad X B hf ex)) args s rm_X2_nextToSend.cells rm_X2_nextToSend.slots A) (wl kc ad X B hf ex) 4 [some (.ref (ad 0)), some (.int (oI (nxt X k))), some (.int (nI k))] [] := by
    intro d
    induction d with
    | zero =>
      intro k hk
      refine x_iload2 M dX2_nextToSend_4 ?_
      refine x_aload0 M dX2_nextToSend_5 ?_
      refine gX3 M TB kw_90 dX2_nextToSend_6 ?_
      refine n_icmp_ge (tgt := 59) M (by first | omega | exact hB _ _) (by first | omega | exact hB _ _) dX2_nextToSend_9 (by decide) (fun q9 => ?_) (fun q9 => absurd q9 (by omega))
      refine x_iload1 M dX2_nextToSend_59 ?_
      exact x_iret M hr hlk dX2_nextToSend_60 ⟨by decide, by decide⟩ (by rw [show k = X 0 0 by omega]) rfl
    | succ d ih =>
      intro k hk
      cases hfo : nxt X k with
      | none =>
        refine x_iload2 M dX2_nextToSend_4 ?_
        refine x_aload0 M dX2_nextToSend_5 ?_
        refine gX3 M TB kw_90 dX2_nextToSend_6 ?_
        refine n_icmp_ge (tgt := 59) M (by first | omega | exact hB _ _) (by first | omega | exact hB _ _) dX2_nextToSend_9 (by decide) (fun q9 => absurd q9 (by omega)) (fun q9 => ?_)
        refine x_aload0 M dX2_nextToSend_12 ?_
        refine gX1 M TB kw_88 dX2_nextToSend_13 ?_
        refine x_iload2 M dX2_nextToSend_16 ?_
        refine aL M TB (by omega) dX2_nextToSend_17 ?_
        refine x_aload0 M dX2_nextToSend_18 ?_
        refine gX4 M TB kw_91 dX2_nextToSend_19 ?_
        refine x_callV0 M TB hAA mv_X0_isDue kw_118 dX2_nextToSend_22 (c_isDue hB0 (by omega) (hB _ _)) rfl (wl_lab (by omega)) rfl rfl ⟨by decide, by decide⟩ ⟨by decide, by decide⟩ (Nat.le_of_ble_eq_true rfl) ?_
        refine b_if_eq (tgt := 53) M dX2_nextToSend_25 (by decide) (fun q25 => ?_) (fun q25 => ?_)
        · refine n_inc2 M dX2_nextToSend_53 ?_
          refine x_goto (tgt := 4) M dX2_nextToSend_56 (by decide) ?_
          have h9 := ih (k + 1) (by omega)
          rw [nxt_n hfo, if_neg q25] at h9
          exact h9
        · refine x_iload1 M dX2_nextToSend_28 ?_
          refine x_iconst (v := (-1)) M dX2_nextToSend_29 (by decide +kernel) ?_
          refine x_icmp_eq (tgt := 51) M dX2_nextToSend_30 (by decide) (fun q30 => ?_) (fun q30 => absurd rfl q30)
          refine x_iload2 M dX2_nextToSend_51 ?_
          refine x_istore1 M dX2_nextToSend_52 ?_
          refine n_inc2 M dX2_nextToSend_53 ?_
          refine x_goto (tgt := 4) M dX2_nextToSend_56 (by decide) ?_
          have h9 := ih (k + 1) (by omega)
          rw [nxt_n hfo, if_pos q25] at h9
          exact h9
      | some j =>
        have hj := nxt_of hfo
        refine x_iload2 M dX2_nextToSend_4 ?_
        refine x_aload0 M dX2_nextToSend_5 ?_
        refine gX3 M TB kw_90 dX2_nextToSend_6 ?_
        refine n_icmp_ge (tgt := 59) M (by first | omega | exact hB _ _) (by first | omega | exact hB _ _) dX2_nextToSend_9 (by decide) (fun q9 => absurd q9 (by omega)) (fun q9 => ?_)
        refine x_aload0 M dX2_nextToSend_12 ?_
        refine gX1 M TB kw_88 dX2_nextToSend_13 ?_
        refine x_iload2 M dX2_nextToSend_16 ?_
        refine aL M TB (by omega) dX2_nextToSend_17 ?_
        refine x_aload0 M dX2_nextToSend_18 ?_
        refine gX4 M TB kw_91 dX2_nextToSend_19 ?_
        refine x_callV0 M TB hAA mv_X0_isDue kw_118 dX2_nextToSend_22 (c_isDue hB0 (by omega) (hB _ _)) rfl (wl_lab (by omega)) rfl rfl ⟨by decide, by decide⟩ ⟨by decide, by decide⟩ (Nat.le_of_ble_eq_true rfl) ?_
        refine b_if_eq (tgt := 53) M dX2_nextToSend_25 (by decide) (fun q25 => ?_) (fun q25 => ?_)
        · refine n_inc2 M dX2_nextToSend_53 ?_
          refine x_goto (tgt := 4) M dX2_nextToSend_56 (by decide) ?_
          have h9 := ih (k + 1) (by omega)
          rw [nxt_s hfo, if_neg (fun h => q25 h.1)] at h9
          exact h9
        · refine x_iload1 M dX2_nextToSend_28 ?_
          refine x_iconst (v := (-1)) M dX2_nextToSend_29 (by decide +kernel) ?_
          refine x_icmp_eq (tgt := 51) M dX2_nextToSend_30 (by decide) (fun q30 => absurd q30 (nI_m1 (by omega))) (fun q30 => ?_)
          refine x_aload0 M dX2_nextToSend_33 ?_
          refine gX1 M TB kw_88 dX2_nextToSend_34 ?_
          refine x_iload2 M dX2_nextToSend_37 ?_
          refine aL M TB (by omega) dX2_nextToSend_38 ?_
          refine x_aload0 M dX2_nextToSend_39 ?_
          refine gX1 M TB kw_88 dX2_nextToSend_40 ?_
          refine x_iload1 M dX2_nextToSend_43 ?_
          refine aL M TB (by omega) dX2_nextToSend_44 ?_
          refine x_callV0 M TB hAA mv_X0_isSentBefore kw_122 dX2_nextToSend_45 (c_isSentBefore hB0 (by omega) (by omega) q25.1 hj.2.1) rfl (wl_lab (by omega)) rfl rfl ⟨by decide, by decide⟩ ⟨by decide, by decide⟩ (Nat.le_of_ble_eq_true rfl) ?_
          refine b_if_eq (tgt := 53) M dX2_nextToSend_48 (by decide) (fun q48 => ?_) (fun q48 => ?_)
          · refine n_inc2 M dX2_nextToSend_53 ?_
            refine x_goto (tgt := 4) M dX2_nextToSend_56 (by decide) ?_
            have h9 := ih (k + 1) (by omega)
            rw [nxt_s hfo, if_neg (fun h => q48 h.2)] at h9
            exact h9
          · refine x_iload2 M dX2_nextToSend_51 ?_
            refine x_istore1 M dX2_nextToSend_52 ?_
            refine n_inc2 M dX2_nextToSend_53 ?_
            refine x_goto (tgt := 4) M dX2_nextToSend_56 (by decide) ?_
            have h9 := ih (k + 1) (by omega)
            rw [nxt_s hfo, if_pos ⟨q25, q48⟩] at h9
            exact h9
  refine x_iconst (v := (-1)) M dX2_nextToSend_0 (by decide +kernel) ?_
  refine x_istore1 M dX2_nextToSend_1 ?_
  refine x_iconst (v := nI 0) M dX2_nextToSend_2 (by decide +kernel) ?_
  refine x_istore2 M dX2_nextToSend_3 ?_
  exact loop (X 0 0) 0 (by omega)
end XM
