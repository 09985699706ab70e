/-! THE LAW's METHODS: prices -/
section XM
variable {l : Launch} {D : va_G} {kc : Nat → ClassId} {A : Nat → Prop} {ad : Nat → Nat} {X B : St} {hf : Nat → Int64} {ex : va_W}
theorem mv_L_prices : x_MS yL_prices cL_prices 8 (some FieldType.boolean) 4 := ⟨kw_277, kw_8, ⟨by decide +kernel, by decide +kernel⟩, by decide +kernel, kw_276⟩
abbrev rm_L_prices : Room := { frames := 2, cells := 0, slots := 0, locals := 46 }
theorem up_up (S : St) (r i a b : Nat) : up (up S r i a) r i b = up S r i b := by
  funext r2 i2
  unfold up
  split <;> rfl
set_option maxRecDepth 20000 in
set_option maxHeartbeats 2000000 in
theorem l_prices_1 {t m : Nat} (hI : Iv X t m) (hm : m ≤ 10000) {j v : Nat} (hj : j < 3) (hv : v ≤ 9999) (he : X 1 j = v) : x_Ret l D kc A yL_prices cL_prices 8 (some FieldType.boolean) rm_L_prices [.ref (ad 0), .ref (ad 6), .int (nI j), .int (nI v)] (wl kc ad X (cS X) (hS X) ex) (some (.int (nI 1))) (wl kc ad X (cS X) (hS X) ex) := by
  refine x_ret_of RL (by decide +kernel) rfl [some (.ref (ad 0)), some (.ref (ad 6)), some (.int (nI j)), some (.int (nI v)), none, none, none, none] (Nat.le_of_ble_eq_true rfl) rfl rfl ?_
  intro p e s m args below meth c M hr hlk hnm TB hAA
  have hO := hI.1
  have hB : ∀ r i, X r i < 2 ^ 31 := fun r i => Nat.lt_trans (hO.bd r i) (by decide)
  have hn := hO.n
  have hm2 := hI.2.2.1
  have hc1 : cS X 0 1 = X 0 0 := rfl
  have loop2 : ∀ (d k : Nat), k + d = X 0 0 → x_X p l e rm_L_prices s m args below meth c D A 8 0 0 (MQ below (x_Qc D A (some (.int (nI 1))) (wl kc ad X (cS X) (hS X) ex)) args s rm_L_prices.cells rm_L_prices.slots A) (wl kc ad X (cS X) (hS X) ex) 91 [some (.ref (ad 0)), some (.ref (ad 6)), some (.int (nI j)), some (.int (nI v)), some (.int (nI 1)), some (.int (nI (0))), some (.int (nI (1))), some (.int (nI k))] [] := by
    intro d
    induction d with
    | zero =>
      intro k hk
      obtain rfl : k = X 0 0 := by omega
      refine x_iload7 M dL_prices_91 ?_
      refine x_aload1 M dL_prices_93 ?_
      refine x_iconst (v := nI 1) M dL_prices_94 (by decide +kernel) ?_
      refine aCv M TB hc1 (by omega) dL_prices_95 ?_
      refine n_icmp_ge (tgt := 151) M (by first | omega | exact hB _ _ | exact hC _ _) (by first | omega | exact hB _ _ | exact hC _ _) dL_prices_96 (by decide) (fun q96 => ?_) (fun q96 => absurd q96 (by omega))
      refine x_iload6 M dL_prices_151 ?_
      exact x_zret M hr hlk dL_prices_153 ⟨by decide, by decide⟩ (Or.inr rfl) rfl rfl
    | succ d ih =>
      intro k hk
      have hk2 : k < X 0 0 := by omega
      have h9 := ih (k + 1) (by omega)
      have hcw : cS X 0 (3 + k) = X 2 k := cS_w X (by omega)
      refine x_iload7 M dL_prices_91 ?_
      refine x_aload1 M dL_prices_93 ?_
      refine x_iconst (v := nI 1) M dL_prices_94 (by decide +kernel) ?_
      refine aCv M TB hc1 (by omega) dL_prices_95 ?_
      refine n_icmp_ge (tgt := 151) M (by first | omega | exact hB _ _ | exact hC _ _) (by first | omega | exact hB _ _ | exact hC _ _) dL_prices_96 (by decide) (fun q96 => absurd q96 (by omega)) (fun q96 => ?_)
      refine x_aload1 M dL_prices_99 ?_
      refine x_iconst (v := nI 3) M dL_prices_100 (by decide +kernel) ?_
      refine x_iload7 M dL_prices_101 ?_
      refine n_add M dL_prices_103 ?_
      refine aCv M TB hcw (by omega) dL_prices_104 ?_
      refine x_iload2 M dL_prices_105 ?_
      refine n_icmp_ne (tgt := 145) M (by first | omega | exact hB _ _ | exact hC _ _) (by first | omega | exact hB _ _ | exact hC _ _) dL_prices_106 (by decide) (fun q106 => ?_) (fun q106 => ?_)
      · refine n_inc7 M dL_prices_145 ?_
        refine x_goto (tgt := 91) M dL_prices_148 (by decide) ?_
        exact h9
      · refine x_iload4 M dL_prices_109 ?_
        refine n_if_ne (tgt := 145) M (by first | omega | exact hB _ _ | exact hC _ _) dL_prices_111 (by decide) (fun q111 => ?_) (fun q111 => absurd q111 (by decide))
        refine n_inc7 M dL_prices_145 ?_
        refine x_goto (tgt := 91) M dL_prices_148 (by decide) ?_
        exact h9
  have loop1 : ∀ (d k : Nat), k + d = X 0 0 → x_X p l e rm_L_prices s m args below meth c D A 8 0 0 (MQ below (x_Qc D A (some (.int (nI 1))) (wl kc ad X (cS X) (hS X) ex)) args s rm_L_prices.cells rm_L_prices.slots A) (wl kc ad X (cS X) (hS X) ex) 22 [some (.ref (ad 0)), some (.ref (ad 6)), some (.int (nI j)), some (.int (nI v)), some (.int (nI 1)), some (.int (nI (0))), some (.int (nI (k))), none] [] := by
    intro d
    induction d with
    | zero =>
      intro k hk
      obtain rfl : k = X 0 0 := by omega
      refine x_iload6 M dL_prices_22 ?_
      refine x_aload1 M dL_prices_24 ?_
      refine x_iconst (v := nI 1) M dL_prices_25 (by decide +kernel) ?_
      refine aCv M TB hc1 (by omega) dL_prices_26 ?_
      refine n_icmp_ge (tgt := 61) M (by first | omega | exact hB _ _ | exact hC _ _) (by first | omega | exact hB _ _ | exact hC _ _) dL_prices_27 (by decide) (fun q27 => ?_) (fun q27 => absurd q27 (by omega))
      refine x_aload0 M dL_prices_61 ?_
      refine x_iload2 M dL_prices_62 ?_
      refine x_iload3 M dL_prices_63 ?_
      refine x_callV0 M TB hAA mv_X2_setPrice kw_278 dL_prices_64 (c_setPrice0 hO (show j < 12 by omega) hv he) rfl wl_X rfl rfl ⟨by decide, by decide⟩ ⟨by decide, by decide⟩ (Nat.le_of_ble_eq_true rfl) ?_
      refine x_iload5 M dL_prices_67 ?_
      refine n_icmp_ne (tgt := 85) M (by first | omega | exact hB _ _ | exact hC _ _) (by first | omega | exact hB _ _ | exact hC _ _) dL_prices_69 (by decide) (fun q69 => absurd rfl q69) (fun q69 => ?_)
      refine x_aload0 M dL_prices_72 ?_
      refine x_iload2 M dL_prices_73 ?_
      refine x_callV0 M TB hAA mv_X2_price kw_259 dL_prices_74 (c_price (X := X) (show j < 12 by omega)) rfl wl_X rfl rfl ⟨by decide, by decide⟩ ⟨by decide, by decide⟩ (Nat.le_of_ble_eq_true rfl) ?_
      rw [he]
      refine x_iload3 M dL_prices_77 ?_
      refine n_icmp_ne (tgt := 85) M (by first | omega | exact hB _ _ | exact hC _ _) (by first | omega | exact hB _ _ | exact hC _ _) dL_prices_78 (by decide) (fun q78 => absurd rfl q78) (fun q78 => ?_)
      refine x_iconst (v := nI 1) M dL_prices_81 (by decide +kernel) ?_
      refine x_goto (tgt := 86) M dL_prices_82 (by decide) ?_
      refine x_istore6 M dL_prices_86 ?_
      refine x_iconst (v := nI 0) M dL_prices_88 (by decide +kernel) ?_
      refine x_istore7 M dL_prices_89 ?_
      exact loop2 (X 0 0) 0 (by omega)
    | succ d ih =>
      intro k hk
      have hk2 : k < X 0 0 := by omega
      have hcw : cS X 0 (3 + k) = X 2 k := cS_w X (by omega)
      have h9 := ih (k + 1) (by omega)
      refine x_iload6 M dL_prices_22 ?_
      refine x_aload1 M dL_prices_24 ?_
      refine x_iconst (v := nI 1) M dL_prices_25 (by decide +kernel) ?_
      refine aCv M TB hc1 (by omega) dL_prices_26 ?_
      refine n_icmp_ge (tgt := 61) M (by first | omega | exact hB _ _ | exact hC _ _) (by first | omega | exact hB _ _ | exact hC _ _) dL_prices_27 (by decide) (fun q27 => absurd q27 (by omega)) (fun q27 => ?_)
      refine x_iload5 M dL_prices_30 ?_
      refine x_aload1 M dL_prices_32 ?_
      refine x_iconst (v := nI 3) M dL_prices_33 (by decide +kernel) ?_
      refine x_iload6 M dL_prices_34 ?_
      refine n_add M dL_prices_36 ?_
      refine aCv M TB hcw (by omega) dL_prices_37 ?_
      refine x_iload2 M dL_prices_38 ?_
      refine n_icmp_ne (tgt := 51) M (by first | omega | exact hB _ _ | exact hC _ _) (by first | omega | exact hB _ _ | exact hC _ _) dL_prices_39 (by decide) (fun q39 => ?_) (fun q39 => ?_)
      · refine x_iconst (v := nI 0) M dL_prices_51 (by decide +kernel) ?_
        refine n_add M dL_prices_52 ?_
        refine x_istore5 M dL_prices_53 ?_
        refine n_inc6 M dL_prices_55 ?_
        refine x_goto (tgt := 22) M dL_prices_58 (by decide) ?_
        exact h9
      · refine x_iload4 M dL_prices_42 ?_
        refine n_if_ne (tgt := 51) M (by first | omega | exact hB _ _ | exact hC _ _) dL_prices_44 (by decide) (fun q44 => ?_) (fun q44 => absurd q44 (by decide))
        refine x_iconst (v := nI 0) M dL_prices_51 (by decide +kernel) ?_
        refine n_add M dL_prices_52 ?_
        refine x_istore5 M dL_prices_53 ?_
        refine n_inc6 M dL_prices_55 ?_
        refine x_goto (tgt := 22) M dL_prices_58 (by decide) ?_
        exact h9
  refine x_aload0 M dL_prices_0 ?_
  refine x_iload2 M dL_prices_1 ?_
  refine x_callV0 M TB hAA mv_X2_price kw_259 dL_prices_2 (c_price (X := X) (show j < 12 by omega)) rfl wl_X rfl rfl ⟨by decide, by decide⟩ ⟨by decide, by decide⟩ (Nat.le_of_ble_eq_true rfl) ?_
  refine x_iload3 M dL_prices_5 ?_
  refine n_icmp_ne (tgt := 13) M (by first | omega | exact hB _ _ | exact hC _ _) (by first | omega | exact hB _ _ | exact hC _ _) dL_prices_6 (by decide) (fun q6 => absurd he q6) (fun q6 => ?_)
  refine x_iconst (v := nI 1) M dL_prices_9 (by decide +kernel) ?_
  refine x_goto (tgt := 14) M dL_prices_10 (by decide) ?_
  refine x_istore4 M dL_prices_14 ?_
  refine x_iconst (v := nI 0) M dL_prices_16 (by decide +kernel) ?_
  refine x_istore5 M dL_prices_17 ?_
  refine x_iconst (v := nI 0) M dL_prices_19 (by decide +kernel) ?_
  refine x_istore6 M dL_prices_20 ?_
  exact loop1 (X 0 0) 0 (by omega)
set_option maxRecDepth 20000 in
set_option maxHeartbeats 2000000 in
theorem l_prices_0 {t m : Nat} (hI : Iv X t m) (hm : m ≤ 10000) {j v : Nat} (hj : j < 3) (hv : v ≤ 9999) (he : ¬ X 1 j = v) : x_Ret l D kc A yL_prices cL_prices 8 (some FieldType.boolean) rm_L_prices [.ref (ad 0), .ref (ad 6), .int (nI j), .int (nI v)] (wl kc ad X (cS X) (hS X) ex) (some (.int (nI 1))) (wl kc ad (prc X j v) (cS (prc X j v)) (hS (prc X j v)) ex) := by
  refine x_ret_of RL (by decide +kernel) rfl [some (.ref (ad 0)), some (.ref (ad 6)), some (.int (nI j)), some (.int (nI v)), none, none, none, none] (Nat.le_of_ble_eq_true rfl) rfl rfl ?_
  intro p e s m args below meth c M hr hlk hnm TB hAA
  have hO := hI.1
  have hB : ∀ r i, X r i < 2 ^ 31 := fun r i => Nat.lt_trans (hO.bd r i) (by decide)
  have hn := hO.n
  have hm2 := hI.2.2.1
  have hc1 : cS X 0 1 = X 0 0 := rfl
  have hO2 : Ok (prc X j v) := (Iv_prc hI hm hj hv).1
  have hC : ∀ r i, prc X j v r i < 2 ^ 31 := fun r i => Nat.lt_trans (hO2.bd r i) (by decide)
  obtain ⟨p1, p2, p3, p4, p5, p6, p7⟩ := prc_x he
  have hp1 : prc X j v 1 j = v := (p2 j).trans (if_pos rfl)
  have hs2 : (spl (up X 1 j v) j (X 0 0)).2 = cw X j (X 0 0) := (spl_x _ _ _).1.trans (cw_up X j v j _)
  have hcn := cw_le X j (X 0 0)
  have loop2 : ∀ (d k : Nat), k + d = X 0 0 → x_X p l e rm_L_prices s m args below meth c D A 8 0 0 (MQ below (x_Qc D A (some (.int (nI 1))) (wl kc ad (prc X j v) (cS (prc X j v)) (hS (prc X j v)) ex)) args s rm_L_prices.cells rm_L_prices.slots A) (wl kc ad (prc X j v) (up (cS X) 0 2 (X 0 2 + cw X j k)) (hS X) ex) 91 [some (.ref (ad 0)), some (.ref (ad 6)), some (.int (nI j)), some (.int (nI v)), some (.int (nI 0)), some (.int (nI (cw X j (X 0 0)))), some (.int (nI (1))), some (.int (nI k))] [] := by
    intro d
    induction d with
    | zero =>
      intro k hk
      obtain rfl : k = X 0 0 := by omega
      have hc1 : up (cS X) 0 2 (X 0 2 + cw X j (X 0 0)) 0 1 = X 0 0 := rfl
      refine x_iload7 M dL_prices_91 ?_
      refine x_aload1 M dL_prices_93 ?_
      refine x_iconst (v := nI 1) M dL_prices_94 (by decide +kernel) ?_
      refine aCv M TB hc1 (by omega) dL_prices_95 ?_
      refine n_icmp_ge (tgt := 151) M (by first | omega | exact hB _ _ | exact hC _ _) (by first | omega | exact hB _ _ | exact hC _ _) dL_prices_96 (by decide) (fun q96 => ?_) (fun q96 => absurd q96 (by omega))
      refine x_iload6 M dL_prices_151 ?_
      exact x_zret M hr hlk dL_prices_153 ⟨by decide, by decide⟩ (Or.inr rfl) rfl (by rw [cS_2 p3 p4 p5 (fun i => p1 2 i (by decide) (by decide) (by decide) (by decide)) (fun i => p1 11 i (by decide) (by decide) (by decide) (by decide)), hS_2 (fun i => p1 10 i (by decide) (by decide) (by decide) (by decide))])
    | succ d ih =>
      intro k hk
      have hk2 : k < X 0 0 := by omega
      have h9 := ih (k + 1) (by omega)
      have hck := cw_le X j k
      have hc1 : up (cS X) 0 2 (X 0 2 + cw X j k) 0 1 = X 0 0 := rfl
      have hcw : up (cS X) 0 2 (X 0 2 + cw X j k) 0 (3 + k) = X 2 k := (up_i _ (by omega)).trans (cS_w X (by omega))
      have hc2 : up (cS X) 0 2 (X 0 2 + cw X j k) 0 2 = (X 0 2 + cw X j k) := up_s _ _ _ _
      have hc2b : up (cS X) 0 2 ((X 0 2 + cw X j k) + 1) 0 2 = (X 0 2 + cw X j k) + 1 := up_s _ _ _ _
      refine x_iload7 M dL_prices_91 ?_
      refine x_aload1 M dL_prices_93 ?_
      refine x_iconst (v := nI 1) M dL_prices_94 (by decide +kernel) ?_
      refine aCv M TB hc1 (by omega) dL_prices_95 ?_
      refine n_icmp_ge (tgt := 151) M (by first | omega | exact hB _ _ | exact hC _ _) (by first | omega | exact hB _ _ | exact hC _ _) dL_prices_96 (by decide) (fun q96 => absurd q96 (by omega)) (fun q96 => ?_)
      refine x_aload1 M dL_prices_99 ?_
      refine x_iconst (v := nI 3) M dL_prices_100 (by decide +kernel) ?_
      refine x_iload7 M dL_prices_101 ?_
      refine n_add M dL_prices_103 ?_
      refine aCv M TB hcw (by omega) dL_prices_104 ?_
      refine x_iload2 M dL_prices_105 ?_
      refine n_icmp_ne (tgt := 145) M (by first | omega | exact hB _ _ | exact hC _ _) (by first | omega | exact hB _ _ | exact hC _ _) dL_prices_106 (by decide) (fun q106 => ?_) (fun q106 => ?_)
      · refine n_inc7 M dL_prices_145 ?_
        refine x_goto (tgt := 91) M dL_prices_148 (by decide) ?_
        rw [cw_m q106] at h9
        exact h9
      · refine x_iload4 M dL_prices_109 ?_
        refine n_if_ne (tgt := 145) M (by first | omega | exact hB _ _ | exact hC _ _) dL_prices_111 (by decide) (fun q111 => absurd rfl q111) (fun q111 => ?_)
        refine x_aload1 M dL_prices_114 ?_
        refine x_iconst (v := nI 2) M dL_prices_115 (by decide +kernel) ?_
        refine x_dup2 M dL_prices_116 rfl rfl ?_
        refine aCv M TB hc2 (by omega) dL_prices_117 ?_
        refine x_iconst (v := nI 1) M dL_prices_118 (by decide +kernel) ?_
        refine n_add M dL_prices_119 ?_
        refine sC M TB (by omega) dL_prices_120 ?_
        rw [up_up]
        refine x_iload6 M dL_prices_121 ?_
        refine n_if_eq (tgt := 142) M (by first | omega | exact hB _ _ | exact hC _ _) dL_prices_123 (by decide) (fun q123 => absurd q123 (by decide)) (fun q123 => ?_)
        refine x_aload0 M dL_prices_126 ?_
        refine x_iload7 M dL_prices_127 ?_
        refine x_callV0 M TB hAA mv_X2_order kw_271 dL_prices_129 (c_order hO2 (j := k) (by omega)) rfl wl_X rfl rfl ⟨by decide, by decide⟩ ⟨by decide, by decide⟩ (Nat.le_of_ble_eq_true rfl) ?_
        rw [show eo (prc X j v 8 k) = nI (X 0 2 + cw X j k + 1) from by rw [p6 k hk2, if_pos q106, eo_n (by omega)]]
        refine x_aload1 M dL_prices_132 ?_
        refine x_iconst (v := nI 2) M dL_prices_133 (by decide +kernel) ?_
        refine aCv M TB hc2b (by omega) dL_prices_134 ?_
        refine n_icmp_ne (tgt := 142) M (by first | omega | exact hB _ _ | exact hC _ _) (by first | omega | exact hB _ _ | exact hC _ _) dL_prices_135 (by decide) (fun q135 => absurd rfl q135) (fun q135 => ?_)
        refine x_iconst (v := nI 1) M dL_prices_138 (by decide +kernel) ?_
        refine x_goto (tgt := 143) M dL_prices_139 (by decide) ?_
        refine x_istore6 M dL_prices_143 ?_
        refine n_inc7 M dL_prices_145 ?_
        refine x_goto (tgt := 91) M dL_prices_148 (by decide) ?_
        rw [cw_p q106] at h9
        exact h9
  have loop1 : ∀ (d k : Nat), k + d = X 0 0 → x_X p l e rm_L_prices s m args below meth c D A 8 0 0 (MQ below (x_Qc D A (some (.int (nI 1))) (wl kc ad (prc X j v) (cS (prc X j v)) (hS (prc X j v)) ex)) args s rm_L_prices.cells rm_L_prices.slots A) (wl kc ad X (cS X) (hS X) ex) 22 [some (.ref (ad 0)), some (.ref (ad 6)), some (.int (nI j)), some (.int (nI v)), some (.int (nI 0)), some (.int (nI (cw X j k))), some (.int (nI (k))), none] [] := by
    intro d
    induction d with
    | zero =>
      intro k hk
      obtain rfl : k = X 0 0 := by omega
      refine x_iload6 M dL_prices_22 ?_
      refine x_aload1 M dL_prices_24 ?_
      refine x_iconst (v := nI 1) M dL_prices_25 (by decide +kernel) ?_
      refine aCv M TB hc1 (by omega) dL_prices_26 ?_
      refine n_icmp_ge (tgt := 61) M (by first | omega | exact hB _ _ | exact hC _ _) (by first | omega | exact hB _ _ | exact hC _ _) dL_prices_27 (by decide) (fun q27 => ?_) (fun q27 => absurd q27 (by omega))
      refine x_aload0 M dL_prices_61 ?_
      refine x_iload2 M dL_prices_62 ?_
      refine x_iload3 M dL_prices_63 ?_
      refine x_callV0 M TB hAA mv_X2_setPrice kw_278 dL_prices_64 (c_setPrice hO (by omega) (show j < 12 by omega) hv he) rfl wl_X rfl rfl ⟨by decide, by decide⟩ ⟨by decide, by decide⟩ (Nat.le_of_ble_eq_true rfl) ?_
      rw [hs2, ← prc_n he]
      refine x_iload5 M dL_prices_67 ?_
      refine n_icmp_ne (tgt := 85) M (by first | omega | exact hB _ _ | exact hC _ _) (by first | omega | exact hB _ _ | exact hC _ _) dL_prices_69 (by decide) (fun q69 => absurd rfl q69) (fun q69 => ?_)
      refine x_aload0 M dL_prices_72 ?_
      refine x_iload2 M dL_prices_73 ?_
      refine x_callV0 M TB hAA mv_X2_price kw_259 dL_prices_74 (c_price (X := (prc X j v)) (show j < 12 by omega)) rfl wl_X rfl rfl ⟨by decide, by decide⟩ ⟨by decide, by decide⟩ (Nat.le_of_ble_eq_true rfl) ?_
      rw [hp1]
      refine x_iload3 M dL_prices_77 ?_
      refine n_icmp_ne (tgt := 85) M (by first | omega | exact hB _ _ | exact hC _ _) (by first | omega | exact hB _ _ | exact hC _ _) dL_prices_78 (by decide) (fun q78 => absurd rfl q78) (fun q78 => ?_)
      refine x_iconst (v := nI 1) M dL_prices_81 (by decide +kernel) ?_
      refine x_goto (tgt := 86) M dL_prices_82 (by decide) ?_
      refine x_istore6 M dL_prices_86 ?_
      refine x_iconst (v := nI 0) M dL_prices_88 (by decide +kernel) ?_
      refine x_istore7 M dL_prices_89 ?_
      refine x_ws (show _ = wl kc ad (prc X j v) (up (cS X) 0 2 (X 0 2 + cw X j 0)) (hS X) ex from by rw [show up (cS X) 0 2 (X 0 2 + cw X j 0) = cS X from up_id _ rfl]) ?_
      exact loop2 (X 0 0) 0 (by omega)
    | succ d ih =>
      intro k hk
      have hk2 : k < X 0 0 := by omega
      have hcw : cS X 0 (3 + k) = X 2 k := cS_w X (by omega)
      have h9 := ih (k + 1) (by omega)
      refine x_iload6 M dL_prices_22 ?_
      refine x_aload1 M dL_prices_24 ?_
      refine x_iconst (v := nI 1) M dL_prices_25 (by decide +kernel) ?_
      refine aCv M TB hc1 (by omega) dL_prices_26 ?_
      refine n_icmp_ge (tgt := 61) M (by first | omega | exact hB _ _ | exact hC _ _) (by first | omega | exact hB _ _ | exact hC _ _) dL_prices_27 (by decide) (fun q27 => absurd q27 (by omega)) (fun q27 => ?_)
      refine x_iload5 M dL_prices_30 ?_
      refine x_aload1 M dL_prices_32 ?_
      refine x_iconst (v := nI 3) M dL_prices_33 (by decide +kernel) ?_
      refine x_iload6 M dL_prices_34 ?_
      refine n_add M dL_prices_36 ?_
      refine aCv M TB hcw (by omega) dL_prices_37 ?_
      refine x_iload2 M dL_prices_38 ?_
      refine n_icmp_ne (tgt := 51) M (by first | omega | exact hB _ _ | exact hC _ _) (by first | omega | exact hB _ _ | exact hC _ _) dL_prices_39 (by decide) (fun q39 => ?_) (fun q39 => ?_)
      · refine x_iconst (v := nI 0) M dL_prices_51 (by decide +kernel) ?_
        refine n_add M dL_prices_52 ?_
        refine x_istore5 M dL_prices_53 ?_
        refine n_inc6 M dL_prices_55 ?_
        refine x_goto (tgt := 22) M dL_prices_58 (by decide) ?_
        rw [cw_m q39] at h9
        exact h9
      · refine x_iload4 M dL_prices_42 ?_
        refine n_if_ne (tgt := 51) M (by first | omega | exact hB _ _ | exact hC _ _) dL_prices_44 (by decide) (fun q44 => absurd rfl q44) (fun q44 => ?_)
        refine x_iconst (v := nI 1) M dL_prices_47 (by decide +kernel) ?_
        refine x_goto (tgt := 52) M dL_prices_48 (by decide) ?_
        refine n_add M dL_prices_52 ?_
        refine x_istore5 M dL_prices_53 ?_
        refine n_inc6 M dL_prices_55 ?_
        refine x_goto (tgt := 22) M dL_prices_58 (by decide) ?_
        rw [cw_p q39] at h9
        exact h9
  refine x_aload0 M dL_prices_0 ?_
  refine x_iload2 M dL_prices_1 ?_
  refine x_callV0 M TB hAA mv_X2_price kw_259 dL_prices_2 (c_price (X := X) (show j < 12 by omega)) rfl wl_X rfl rfl ⟨by decide, by decide⟩ ⟨by decide, by decide⟩ (Nat.le_of_ble_eq_true rfl) ?_
  refine x_iload3 M dL_prices_5 ?_
  refine n_icmp_ne (tgt := 13) M (by first | omega | exact hB _ _ | exact hC _ _) (by first | omega | exact hB _ _ | exact hC _ _) dL_prices_6 (by decide) (fun q6 => ?_) (fun q6 => absurd q6 he)
  refine x_iconst (v := nI 0) M dL_prices_13 (by decide +kernel) ?_
  refine x_istore4 M dL_prices_14 ?_
  refine x_iconst (v := nI 0) M dL_prices_16 (by decide +kernel) ?_
  refine x_istore5 M dL_prices_17 ?_
  refine x_iconst (v := nI 0) M dL_prices_19 (by decide +kernel) ?_
  refine x_istore6 M dL_prices_20 ?_
  exact loop1 (X 0 0) 0 (by omega)
theorem l_prices {t m : Nat} (hI : Iv X t m) (hm : m ≤ 10000) {j v : Nat} (hj : j < 3) (hv : v ≤ 9999) : x_Ret l D kc A yL_prices cL_prices 8 (some FieldType.boolean) rm_L_prices [.ref (ad 0), .ref (ad 6), .int (nI j), .int (nI v)] (wl kc ad X (cS X) (hS X) ex) (some (.int (nI 1))) (wl kc ad (prc X j v) (cS (prc X j v)) (hS (prc X j v)) ex) := by
  by_cases he : X 1 j = v
  · rw [prc_e he]
    exact l_prices_1 hI hm hj hv he
  · exact l_prices_0 hI hm hj hv he
end XM
