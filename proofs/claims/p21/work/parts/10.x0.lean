/-! THE CLASS's METHODS, leaves -/
section XM
variable {l : Launch} {D : va_G} {kc : Nat → ClassId} {A : Nat → Prop} {ad : Nat → Nat} {X B : St} {hf : Nat → Int64} {ex : va_W}
theorem mv_X2_needWare : x_MS yX2_needWare cX2_needWare 1 none 1 := ⟨kw_132, kw_9, ⟨by decide +kernel, by decide +kernel⟩, by decide +kernel, kw_131⟩
abbrev rm_X2_needWare : Room := { frames := 0, cells := 0, slots := 0, locals := 0 }
set_option maxRecDepth 20000 in
set_option maxHeartbeats 2000000 in
theorem c_needWare {j : Nat} (hj : j < 12) : x_Ret l D kc A yX2_needWare cX2_needWare 1 none rm_X2_needWare [.int (nI j)] (wl kc ad X B hf ex) (none) (wl kc ad X B hf ex) := by
  refine x_ret_of RX2 (by decide +kernel) rfl [some (.int (nI j))] (Nat.le_of_ble_eq_true rfl) rfl rfl ?_
  intro p e s m args below meth c M hr hlk hnm TB hAA
  refine x_iload0 M dX2_needWare_0 ?_
  refine n_if_lt (tgt := 10) M (by first | omega | exact hB _ _) dX2_needWare_1 (by decide) (fun q1 => q1.elim) (fun q1 => ?_)
  refine x_iload0 M dX2_needWare_4 ?_
  refine x_bipush (v := nI 12) M dX2_needWare_5 (by decide +kernel) ?_
  refine n_icmp_lt (tgt := 20) M (by first | omega | exact hB _ _) (by first | omega | exact hB _ _) dX2_needWare_7 (by decide) (fun q7 => ?_) (fun q7 => absurd hj (by omega))
  exact x_vret M hr hlk dX2_needWare_20 ⟨by decide, by decide⟩ rfl rfl
theorem mv_X2_needWithin : x_MS yX2_needWithin cX2_needWithin 3 none 3 := ⟨kw_284, kw_9, ⟨by decide +kernel, by decide +kernel⟩, by decide +kernel, kw_283⟩
abbrev rm_X2_needWithin : Room := { frames := 0, cells := 0, slots := 0, locals := 0 }
set_option maxRecDepth 20000 in
set_option maxHeartbeats 2000000 in
theorem c_needWithin {v lo hi : Nat} (h1 : lo ≤ v) (h2 : v ≤ hi) (h3 : hi < 2 ^ 31) : x_Ret l D kc A yX2_needWithin cX2_needWithin 3 none rm_X2_needWithin [.int (nI v), .int (nI lo), .int (nI hi)] (wl kc ad X B hf ex) (none) (wl kc ad X B hf ex) := by
  refine x_ret_of RX2 (by decide +kernel) rfl [some (.int (nI v)), some (.int (nI lo)), some (.int (nI hi))] (Nat.le_of_ble_eq_true rfl) rfl rfl ?_
  intro p e s m args below meth c M hr hlk hnm TB hAA
  refine x_iload0 M dX2_needWithin_0 ?_
  refine x_iload1 M dX2_needWithin_1 ?_
  refine n_icmp_lt (tgt := 10) M (by first | omega | exact hB _ _) (by first | omega | exact hB _ _) dX2_needWithin_2 (by decide) (fun q2 => absurd h1 (by omega)) (fun q2 => ?_)
  refine x_iload0 M dX2_needWithin_5 ?_
  refine x_iload2 M dX2_needWithin_6 ?_
  refine n_icmp_le (tgt := 20) M (by first | omega | exact hB _ _) (by first | omega | exact hB _ _) dX2_needWithin_7 (by decide) (fun q7 => ?_) (fun q7 => absurd h2 (by omega))
  exact x_vret M hr hlk dX2_needWithin_20 ⟨by decide, by decide⟩ rfl rfl
theorem mv_X2_labelOf : x_MV yX2_labelOf cX2_labelOf 2 (some (FieldType.object "GlassLabels$Label")) 1 := ⟨kw_257, kw_9, ⟨by decide +kernel, by decide +kernel⟩, by decide +kernel, kw_256, kw_2⟩
abbrev rm_X2_labelOf : Room := { frames := 0, cells := 0, slots := 0, locals := 0 }
set_option maxRecDepth 20000 in
set_option maxHeartbeats 2000000 in
theorem c_labelOf (hB0 : Bd X) (hn : X 0 0 ≤ 12) {j : Nat} (hj : j < X 0 0) : x_Ret l D kc A yX2_labelOf cX2_labelOf 2 (some (FieldType.object "GlassLabels$Label")) rm_X2_labelOf [.ref (ad 0), .int (nI j)] (wl kc ad X B hf ex) (some (.ref (ad (8 + j)))) (wl kc ad X B hf ex) := by
  refine x_ret_of RX2 (by decide +kernel) rfl [some (.ref (ad 0)), some (.int (nI j))] (Nat.le_of_ble_eq_true rfl) rfl rfl ?_
  intro p e s m args below meth c M hr hlk hnm TB hAA
  have hB : ∀ r i, X r i < 2 ^ 31 := fun r i => Nat.lt_trans (hB0 r i) (by decide)
  refine x_iload1 M dX2_labelOf_0 ?_
  refine n_if_lt (tgt := 12) M (by first | omega | exact hB _ _) dX2_labelOf_1 (by decide) (fun q1 => q1.elim) (fun q1 => ?_)
  refine x_iload1 M dX2_labelOf_4 ?_
  refine x_aload0 M dX2_labelOf_5 ?_
  refine gX3 M TB kw_90 dX2_labelOf_6 ?_
  refine n_icmp_lt (tgt := 22) M (by first | omega | exact hB _ _) (by first | omega | exact hB _ _) dX2_labelOf_9 (by decide) (fun q9 => ?_) (fun q9 => absurd hj (by omega))
  refine x_aload0 M dX2_labelOf_22 ?_
  refine gX1 M TB kw_88 dX2_labelOf_23 ?_
  refine x_iload1 M dX2_labelOf_26 ?_
  refine aL M TB (by omega) dX2_labelOf_27 ?_
  exact x_aret M hr hlk dX2_labelOf_28 ⟨by decide, by decide⟩ rfl rfl
theorem mv_X0_isDue : x_MV yX0_isDue cX0_isDue 2 (some FieldType.boolean) 1 := ⟨kw_121, kw_12, ⟨by decide +kernel, by decide +kernel⟩, by decide +kernel, kw_119, kw_120⟩
abbrev rm_X0_isDue : Room := { frames := 0, cells := 0, slots := 0, locals := 0 }
set_option maxRecDepth 20000 in
set_option maxHeartbeats 2000000 in
theorem c_isDue (hB0 : Bd X) {i t : Nat} (hi : i < 12) (ht : t < 2 ^ 31) : x_Ret l D kc A yX0_isDue cX0_isDue 2 (some FieldType.boolean) rm_X0_isDue [.ref (ad (8 + i)), .int (nI t)] (wl kc ad X B hf ex) (some (.int (if X 8 i ≠ 0 ∧ X 9 i ≤ t then 1 else 0 : Int32))) (wl kc ad X B hf ex) := by
  refine x_ret_of RX0 (by decide +kernel) rfl [some (.ref (ad (8 + i))), some (.int (nI t))] (Nat.le_of_ble_eq_true rfl) rfl rfl ?_
  intro p e s m args below meth c M hr hlk hnm TB hAA
  have hB : ∀ r i, X r i < 2 ^ 31 := fun r i => Nat.lt_trans (hB0 r i) (by decide)
  refine x_aload0 M dX0_isDue_0 ?_
  refine gL4 M TB (by omega) kw_62 dX0_isDue_1 ?_
  refine x_iconst (v := (-1)) M dX0_isDue_4 (by decide +kernel) ?_
  refine e_icmp_eq (tgt := 20) M (by first | omega | exact hB _ _) dX0_isDue_5 (by decide) (fun q5 => ?_) (fun q5 => ?_)
  · refine x_iconst (v := nI 0) M dX0_isDue_20 (by decide +kernel) ?_
    exact x_zret M hr hlk dX0_isDue_21 ⟨by decide, by decide⟩ (Or.inl rfl) (by rw [if_neg (by omega)]; rfl) rfl
  · refine x_aload0 M dX0_isDue_8 ?_
    refine gL5 M TB (by omega) kw_64 dX0_isDue_9 ?_
    refine x_iload1 M dX0_isDue_12 ?_
    refine n_icmp_gt (tgt := 20) M (by first | omega | exact hB _ _) (by first | omega | exact hB _ _) dX0_isDue_13 (by decide) (fun q13 => ?_) (fun q13 => ?_)
    · refine x_iconst (v := nI 0) M dX0_isDue_20 (by decide +kernel) ?_
      exact x_zret M hr hlk dX0_isDue_21 ⟨by decide, by decide⟩ (Or.inl rfl) (by rw [if_neg (by omega)]; rfl) rfl
    · refine x_iconst (v := nI 1) M dX0_isDue_16 (by decide +kernel) ?_
      refine x_goto (tgt := 21) M dX0_isDue_17 (by decide) ?_
      exact x_zret M hr hlk dX0_isDue_21 ⟨by decide, by decide⟩ (Or.inr rfl) (by rw [if_pos (by omega)]; rfl) rfl
theorem mv_X0_isSentBefore : x_MV yX0_isSentBefore cX0_isSentBefore 2 (some FieldType.boolean) 1 := ⟨kw_125, kw_12, ⟨by decide +kernel, by decide +kernel⟩, by decide +kernel, kw_123, kw_124⟩
abbrev rm_X0_isSentBefore : Room := { frames := 0, cells := 0, slots := 0, locals := 0 }
set_option maxRecDepth 20000 in
set_option maxHeartbeats 2000000 in
theorem c_isSentBefore (hB0 : Bd X) {i j : Nat} (hi : i < 12) (hj : j < 12) (oi : X 8 i ≠ 0) (oj : X 8 j ≠ 0) : x_Ret l D kc A yX0_isSentBefore cX0_isSentBefore 2 (some FieldType.boolean) rm_X0_isSentBefore [.ref (ad (8 + i)), .ref (ad (8 + j))] (wl kc ad X B hf ex) (some (.int (if bef X i j then 1 else 0 : Int32))) (wl kc ad X B hf ex) := by
  refine x_ret_of RX0 (by decide +kernel) rfl [some (.ref (ad (8 + i))), some (.ref (ad (8 + j)))] (Nat.le_of_ble_eq_true rfl) rfl rfl ?_
  intro p e s m args below meth c M hr hlk hnm TB hAA
  have hB : ∀ r i, X r i < 2 ^ 31 := fun r i => Nat.lt_trans (hB0 r i) (by decide)
  refine x_aload0 M dX0_isSentBefore_0 ?_
  refine gL5 M TB (by omega) kw_64 dX0_isSentBefore_1 ?_
  refine x_aload1 M dX0_isSentBefore_4 ?_
  refine gL5 M TB (by omega) kw_64 dX0_isSentBefore_5 ?_
  refine n_icmp_lt (tgt := 33) M (by first | omega | exact hB _ _) (by first | omega | exact hB _ _) dX0_isSentBefore_8 (by decide) (fun q8 => ?_) (fun q8 => ?_)
  · refine x_iconst (v := nI 1) M dX0_isSentBefore_33 (by decide +kernel) ?_
    refine x_goto (tgt := 38) M dX0_isSentBefore_34 (by decide) ?_
    exact x_zret M hr hlk dX0_isSentBefore_38 ⟨by decide, by decide⟩ (Or.inr rfl) (by rw [if_pos (by omega)]; rfl) rfl
  · refine x_aload0 M dX0_isSentBefore_11 ?_
    refine gL5 M TB (by omega) kw_64 dX0_isSentBefore_12 ?_
    refine x_aload1 M dX0_isSentBefore_15 ?_
    refine gL5 M TB (by omega) kw_64 dX0_isSentBefore_16 ?_
    refine n_icmp_ne (tgt := 37) M (by first | omega | exact hB _ _) (by first | omega | exact hB _ _) dX0_isSentBefore_19 (by decide) (fun q19 => ?_) (fun q19 => ?_)
    · refine x_iconst (v := nI 0) M dX0_isSentBefore_37 (by decide +kernel) ?_
      exact x_zret M hr hlk dX0_isSentBefore_38 ⟨by decide, by decide⟩ (Or.inl rfl) (by rw [if_neg (by omega)]; rfl) rfl
    · refine x_aload0 M dX0_isSentBefore_22 ?_
      refine gL4n M TB (by omega) oi kw_62 dX0_isSentBefore_23 ?_
      refine x_aload1 M dX0_isSentBefore_26 ?_
      refine gL4n M TB (by omega) oj kw_62 dX0_isSentBefore_27 ?_
      refine n_icmp_ge (tgt := 37) M (by first | omega | exact hB _ _) (by first | omega | exact hB _ _) dX0_isSentBefore_30 (by decide) (fun q30 => ?_) (fun q30 => ?_)
      · refine x_iconst (v := nI 0) M dX0_isSentBefore_37 (by decide +kernel) ?_
        exact x_zret M hr hlk dX0_isSentBefore_38 ⟨by decide, by decide⟩ (Or.inl rfl) (by rw [if_neg (by omega)]; rfl) rfl
      · refine x_iconst (v := nI 1) M dX0_isSentBefore_33 (by decide +kernel) ?_
        refine x_goto (tgt := 38) M dX0_isSentBefore_34 (by decide) ?_
        exact x_zret M hr hlk dX0_isSentBefore_38 ⟨by decide, by decide⟩ (Or.inr rfl) (by rw [if_pos (by omega)]; rfl) rfl
theorem mv_X0_listen : x_MV yX0_listen cX0_listen 1 none 0 := ⟨kw_365, kw_12, ⟨by decide +kernel, by decide +kernel⟩, by decide +kernel, kw_363, kw_364⟩
abbrev rm_X0_listen : Room := { frames := 0, cells := 0, slots := 0, locals := 0 }
set_option maxRecDepth 20000 in
set_option maxHeartbeats 2000000 in
theorem c_listen (hB0 : Bd X) {i : Nat} (hi : i < 12) : x_Ret l D kc A yX0_listen cX0_listen 1 none rm_X0_listen [.ref (ad (8 + i))] (wl kc ad X B hf ex) (none) (wl kc ad (up X 5 i (X 5 i - 1)) B hf ex) := by
  refine x_ret_of RX0 (by decide +kernel) rfl [some (.ref (ad (8 + i)))] (Nat.le_of_ble_eq_true rfl) rfl rfl ?_
  intro p e s m args below meth c M hr hlk hnm TB hAA
  have hB : ∀ r i, X r i < 2 ^ 31 := fun r i => Nat.lt_trans (hB0 r i) (by decide)
  refine x_aload0 M dX0_listen_0 ?_
  refine gL3 M TB (by omega) kw_60 dX0_listen_1 ?_
  refine n_if_le (tgt := 17) M (by first | omega | exact hB _ _) dX0_listen_4 (by decide) (fun q4 => ?_) (fun q4 => ?_)
  · exact x_vret M hr hlk dX0_listen_17 ⟨by decide, by decide⟩ rfl (by rw [up_id X (show X 5 i - 1 = X 5 i by omega)])
  · refine x_aload0 M dX0_listen_7 ?_
    refine x_dup M dX0_listen_8 rfl ?_
    refine gL3 M TB (by omega) kw_60 dX0_listen_9 ?_
    refine x_iconst (v := nI 1) M dX0_listen_12 (by decide +kernel) ?_
    refine n_sub M (by omega) dX0_listen_13 ?_
    refine pL3 M TB (by omega) kw_60 dX0_listen_14 ?_
    exact x_vret M hr hlk dX0_listen_17 ⟨by decide, by decide⟩ rfl rfl
end XM
