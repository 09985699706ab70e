/-! THE LAW's METHODS: step -/
section XM
variable {l : Launch} {D : va_G} {kc : Nat → ClassId} {A : Nat → Prop} {ad : Nat → Nat} {X B : St} {hf : Nat → Int64} {ex : va_W}
theorem mv_L_step : x_MS yL_step cL_step 13 (some FieldType.boolean) 6 := ⟨kw_229, kw_8, ⟨by decide +kernel, by decide +kernel⟩, by decide +kernel, kw_228⟩
abbrev rm_L_step : Room := { frames := 6, cells := 100, slots := 1200, locals := 150 }
theorem or_nI {a b : Nat} (ha : a < 2 ^ 32) (hb : b < 2 ^ 32) : nI a ||| nI b = nI (a ||| b) := by
  apply Int32.toBitVec_inj.mp
  apply BitVec.eq_of_toNat_eq
  rw [Int32.toBitVec_or, BitVec.toNat_or, pk_tn ha, pk_tn hb, pk_tn (Nat.or_lt_two_pow ha hb)]
theorem shl_1 : ∀ k, k < 12 → nI 1 <<< (nI k &&& 31) = nI (2 ^ k) := by decide +kernel
theorem lie_v (S : St) : ∀ k, k ≤ 12 → ∃ v, v < 2 ^ 12 ∧ lie S k = nI v
  | 0, _ => ⟨0, by decide, rfl⟩
  | k + 1, hk => by
    obtain ⟨v, h1, h2⟩ := lie_v S k (by omega)
    by_cases h : S 3 k < S 1 (S 2 k)
    · have h3 : 2 ^ k < 2 ^ 12 := Nat.pow_lt_pow_right (by decide) (by omega)
      refine ⟨v ||| 2 ^ k, Nat.or_lt_two_pow h1 h3, ?_⟩
      rw [lie_y h, h2, shl_1 k (by omega), or_nI (by omega) (by omega)]
    · exact ⟨v, h1, by rw [lie_n h]; exact h2⟩
theorem lie_pos (S : St) {k : Nat} (hk : k ≤ 12) : ¬ lie S k < 0 := by
  obtain ⟨v, h1, h2⟩ := lie_v S k hk
  rw [h2]
  exact nI_pos (by omega)
theorem cS_eq {X T : St} (h : ∀ r i, r = 0 ∨ r = 2 ∨ r = 11 → T r i = X r i) : cS T = cS X := by
  refine (cS_ext (fun r j hr => cS_0 X hr) (fun j => ?_)).symm
  show cO X j = cO T j
  unfold cO
  rw [h 0 1 (by omega), h 0 0 (by omega), h 0 2 (by omega), h 2 _ (by omega), h 11 _ (by omega)]
set_option maxRecDepth 20000 in
set_option maxHeartbeats 4000000 in
theorem l_step {t m9 c0 a b : Nat} (hI : Iv X t m9) (ht : t + 25 < 10000) (hm9 : m9 + 12 ≤ 10000) (h0 : c0 < 2 ^ 31) (ha : a < 2 ^ 31) (hb : b < 2 ^ 31) : x_RetP l D kc A yL_step cL_step 13 (some FieldType.boolean) rm_L_step [.ref (ad 0), .ref (ad 6), .ref (ad 7), .int (nI c0), .int (nI a), .int (nI b)] (wl kc ad X (cS X) (hS X) []) (some (.int (nI 1))) (fun w2 => ∃ T, Iv T (t + 25) (m9 + 12) ∧ w2 = wl kc ad T (cS T) (hS T) []) := by
  refine x_retP_of RL (by decide +kernel) rfl [some (.ref (ad 0)), some (.ref (ad 6)), some (.ref (ad 7)), some (.int (nI c0)), some (.int (nI a)), some (.int (nI b)), none, none, none, none, none, none, none] (Nat.le_of_ble_eq_true rfl) rfl rfl ?_
  intro p e s m args below meth c M hr hlk hnm TB hAA
  have hO := hI.1
  have hm2 := hI.2.2.1
  have hn := hO.n
  have hB : ∀ r i, X r i < 2 ^ 31 := fun r i => Nat.lt_trans (hO.bd r i) (by decide)
  have hc1 : cS X 0 1 = X 0 0 := rfl
  have hc0 : cS X 0 0 = X 0 1 := rfl
  have hc2 : cS X 0 2 = X 0 2 := rfl
  have J18 : ∀ lb, (0 < X 0 0 → lb < X 0 0) → lb < 12 → x_X p l e rm_L_step s m args below meth c D A 13 0 0 (MQ below (x_QP D A (some (.int (nI 1))) (fun w2 => ∃ T, Iv T (t + 25) (m9 + 12) ∧ w2 = wl kc ad T (cS T) (hS T) [])) args s rm_L_step.cells rm_L_step.slots A) (wl kc ad X (cS X) (hS X) []) 18 [some (.ref (ad 0)), some (.ref (ad 6)), some (.ref (ad 7)), some (.int (nI c0)), some (.int (nI a)), some (.int (nI b)), some (.int (nI lb)), none, none, none, none, none, none] [] := by
    intro lb hlb hlb2
    have hw3 : b % 3 < 3 := Nat.mod_lt _ (by decide)
    have hw12 : b % 3 < 12 := by omega
    have K84 : x_X p l e rm_L_step s m args below meth c D A 13 0 0 (MQ below (x_QP D A (some (.int (nI 1))) (fun w2 => ∃ T, Iv T (t + 25) (m9 + 12) ∧ w2 = wl kc ad T (cS T) (hS T) [])) args s rm_L_step.cells rm_L_step.slots A) (wl kc ad X (cS X) (hS X) []) 84 [some (.ref (ad 0)), some (.ref (ad 6)), some (.ref (ad 7)), some (.int (nI c0)), some (.int (nI a)), some (.int (nI b)), some (.int (nI lb)), some (.int (nI (b % 3))), none, none, none, none, none] [] := by
      by_cases h12 : X 0 0 = 12
      · skip
        refine x_aload1 M dL_step_84 ?_
        refine x_iconst (v := nI 1) M dL_step_85 (by decide +kernel) ?_
        refine aCv M TB hc1 (by omega) dL_step_86 ?_
        refine x_bipush (v := nI 12) M dL_step_87 (by decide +kernel) ?_
        refine n_icmp_ne (tgt := 108) M (by first | omega | exact hB _ _ | exact hC _ _) (by first | omega | exact hB _ _ | exact hC _ _) dL_step_89 (by decide) (fun q89 => absurd h12 q89) (fun q89 => ?_)
        refine x_aload0 M dL_step_92 ?_
        refine x_callV0 M TB hAA mv_X2_time kw_106 dL_step_93 c_time rfl wl_X rfl rfl ⟨by decide, by decide⟩ ⟨by decide, by decide⟩ (Nat.le_of_ble_eq_true rfl) ?_
        refine x_aload1 M dL_step_96 ?_
        refine x_iconst (v := nI 0) M dL_step_97 (by decide +kernel) ?_
        refine aCv M TB hc0 (by omega) dL_step_98 ?_
        refine n_icmp_ne (tgt := 106) M (by first | omega | exact hB _ _ | exact hC _ _) (by first | omega | exact hB _ _ | exact hC _ _) dL_step_99 (by decide) (fun q99 => absurd rfl q99) (fun q99 => ?_)
        refine x_iconst (v := nI 1) M dL_step_102 (by decide +kernel) ?_
        refine x_goto (tgt := 107) M dL_step_103 (by decide) ?_
        exact x_zretP M hr hlk dL_step_107 ⟨by decide, by decide⟩ (Or.inr rfl) rfl ⟨X, Iv_w hI (by omega) (by omega), rfl⟩
      · have hn2 : X 0 0 < 12 := by omega
        have hI2 := Iv_hng hI hn2 hw3
        have hO2 := hI2.1
        have hC : ∀ r i, hng X (b % 3) r i < 2 ^ 31 := fun r i => Nat.lt_trans (hO2.bd r i) (by decide)
        obtain ⟨z2, z4, z5, z8⟩ := hI.2.2.2.1 (X 0 0) (Nat.le_refl _) hn2
        have hj : X 0 0 < (hng X (b % 3)) 0 0 := Nat.lt_succ_self _
        have hc1b : up (cS X) 0 (3 + X 0 0) (b % 3) 0 1 = X 0 0 := (up_i _ (by omega)).trans rfl
        have hc1c : cS (hng X (b % 3)) 0 1 = X 0 0 + 1 := rfl
        refine x_aload1 M dL_step_84 ?_
        refine x_iconst (v := nI 1) M dL_step_85 (by decide +kernel) ?_
        refine aCv M TB hc1 (by omega) dL_step_86 ?_
        refine x_bipush (v := nI 12) M dL_step_87 (by decide +kernel) ?_
        refine n_icmp_ne (tgt := 108) M (by first | omega | exact hB _ _ | exact hC _ _) (by first | omega | exact hB _ _ | exact hC _ _) dL_step_89 (by decide) (fun q89 => ?_) (fun q89 => absurd q89 h12)
        refine x_aload1 M dL_step_108 ?_
        refine x_iconst (v := nI 3) M dL_step_109 (by decide +kernel) ?_
        refine x_aload1 M dL_step_110 ?_
        refine x_iconst (v := nI 1) M dL_step_111 (by decide +kernel) ?_
        refine aCv M TB hc1 (by omega) dL_step_112 ?_
        refine n_add M dL_step_113 ?_
        refine x_iload7 M dL_step_114 ?_
        refine sC M TB (by omega) dL_step_116 ?_
        refine x_aload1 M dL_step_117 ?_
        refine x_iconst (v := nI 1) M dL_step_118 (by decide +kernel) ?_
        refine x_dup2 M dL_step_119 rfl rfl ?_
        refine aCv M TB hc1b (by omega) dL_step_120 ?_
        refine x_iconst (v := nI 1) M dL_step_121 (by decide +kernel) ?_
        refine n_add M dL_step_122 ?_
        refine sC M TB (by omega) dL_step_123 ?_
        refine x_aload0 M dL_step_124 ?_
        refine x_iload7 M dL_step_125 ?_
        refine x_callV0 M TB hAA mv_X2_hang kw_230 dL_step_127 (c_hang hO hn2 hw12) rfl wl_X rfl rfl ⟨by decide, by decide⟩ ⟨by decide, by decide⟩ (Nat.le_of_ble_eq_true rfl) ?_
        rw [cS_hng hn2]
        refine x_aload1 M dL_step_130 ?_
        refine x_iconst (v := nI 1) M dL_step_131 (by decide +kernel) ?_
        refine aCv M TB hc1c (by omega) dL_step_132 ?_
        refine x_iconst (v := nI 1) M dL_step_133 (by decide +kernel) ?_
        refine n_sub M (by omega) dL_step_134 ?_
        rw [Nat.add_sub_cancel]
        refine n_icmp_ne (tgt := 200) M (by first | omega | exact hB _ _ | exact hC _ _) (by first | omega | exact hB _ _ | exact hC _ _) dL_step_135 (by decide) (fun q135 => absurd rfl q135) (fun q135 => ?_)
        refine x_aload0 M dL_step_138 ?_
        refine x_aload1 M dL_step_139 ?_
        refine x_iconst (v := nI 1) M dL_step_140 (by decide +kernel) ?_
        refine aCv M TB hc1c (by omega) dL_step_141 ?_
        refine x_iconst (v := nI 1) M dL_step_142 (by decide +kernel) ?_
        refine n_sub M (by omega) dL_step_143 ?_
        rw [Nat.add_sub_cancel]
        refine x_callV0 M TB hAA mv_X2_shown kw_250 dL_step_144 (c_shown (X := (hng X (b % 3))) hO2 hj) rfl wl_X rfl rfl ⟨by decide, by decide⟩ ⟨by decide, by decide⟩ (Nat.le_of_ble_eq_true rfl) ?_
        rw [show (hng X (b % 3)) 3 (X 0 0) = X 1 (b % 3) from by unfold hng; rw [up_n _ (by omega), up_s]]
        refine x_aload0 M dL_step_147 ?_
        refine x_iload7 M dL_step_148 ?_
        refine x_callV0 M TB hAA mv_X2_price kw_259 dL_step_150 (c_price (X := (hng X (b % 3))) hw12) rfl wl_X rfl rfl ⟨by decide, by decide⟩ ⟨by decide, by decide⟩ (Nat.le_of_ble_eq_true rfl) ?_
        rw [show (hng X (b % 3)) 1 (b % 3) = X 1 (b % 3) from rfl]
        refine n_icmp_ne (tgt := 200) M (by first | omega | exact hB _ _ | exact hC _ _) (by first | omega | exact hB _ _ | exact hC _ _) dL_step_153 (by decide) (fun q153 => absurd rfl q153) (fun q153 => ?_)
        refine x_aload0 M dL_step_156 ?_
        refine x_aload1 M dL_step_157 ?_
        refine x_iconst (v := nI 1) M dL_step_158 (by decide +kernel) ?_
        refine aCv M TB hc1c (by omega) dL_step_159 ?_
        refine x_iconst (v := nI 1) M dL_step_160 (by decide +kernel) ?_
        refine n_sub M (by omega) dL_step_161 ?_
        rw [Nat.add_sub_cancel]
        refine x_callV0 M TB hAA mv_X2_battery kw_263 dL_step_162 (c_battery (X := (hng X (b % 3))) hO2 hj) rfl wl_X rfl rfl ⟨by decide, by decide⟩ ⟨by decide, by decide⟩ (Nat.le_of_ble_eq_true rfl) ?_
        rw [show (hng X (b % 3)) 5 (X 0 0) = 1000 from z5]
        refine x_sipush (v := nI 1000) M dL_step_165 (by decide +kernel) ?_
        refine n_icmp_ne (tgt := 200) M (by first | omega | exact hB _ _ | exact hC _ _) (by first | omega | exact hB _ _ | exact hC _ _) dL_step_168 (by decide) (fun q168 => absurd rfl q168) (fun q168 => ?_)
        refine x_aload0 M dL_step_171 ?_
        refine x_aload1 M dL_step_172 ?_
        refine x_iconst (v := nI 1) M dL_step_173 (by decide +kernel) ?_
        refine aCv M TB hc1c (by omega) dL_step_174 ?_
        refine x_iconst (v := nI 1) M dL_step_175 (by decide +kernel) ?_
        refine n_sub M (by omega) dL_step_176 ?_
        rw [Nat.add_sub_cancel]
        refine x_callV0 M TB hAA mv_X2_ghosts kw_267 dL_step_177 (c_ghosts (X := (hng X (b % 3))) hO2 hj) rfl wl_X rfl rfl ⟨by decide, by decide⟩ ⟨by decide, by decide⟩ (Nat.le_of_ble_eq_true rfl) ?_
        rw [show (hng X (b % 3)) 4 (X 0 0) = 0 from z4]
        refine n_if_ne (tgt := 200) M (by first | omega | exact hB _ _ | exact hC _ _) dL_step_180 (by decide) (fun q180 => absurd rfl q180) (fun q180 => ?_)
        refine x_aload0 M dL_step_183 ?_
        refine x_aload1 M dL_step_184 ?_
        refine x_iconst (v := nI 1) M dL_step_185 (by decide +kernel) ?_
        refine aCv M TB hc1c (by omega) dL_step_186 ?_
        refine x_iconst (v := nI 1) M dL_step_187 (by decide +kernel) ?_
        refine n_sub M (by omega) dL_step_188 ?_
        rw [Nat.add_sub_cancel]
        refine x_callV0 M TB hAA mv_X2_order kw_271 dL_step_189 (c_order (X := (hng X (b % 3))) hO2 hj) rfl wl_X rfl rfl ⟨by decide, by decide⟩ ⟨by decide, by decide⟩ (Nat.le_of_ble_eq_true rfl) ?_
        rw [show eo ((hng X (b % 3)) 8 (X 0 0)) = -1 from by rw [show (hng X (b % 3)) 8 (X 0 0) = 0 from z8]; rfl]
        refine x_iconst (v := (-1)) M dL_step_192 (by decide +kernel) ?_
        refine x_icmp_ne (tgt := 200) M dL_step_193 (by decide) (fun q193 => absurd rfl q193) (fun q193 => ?_)
        refine x_iconst (v := nI 1) M dL_step_196 (by decide +kernel) ?_
        refine x_goto (tgt := 201) M dL_step_197 (by decide) ?_
        exact x_zretP M hr hlk dL_step_201 ⟨by decide, by decide⟩ (Or.inr rfl) rfl ⟨(hng X (b % 3)), Iv_w hI2 (by omega) (by omega), rfl⟩
    have K202 : x_X p l e rm_L_step s m args below meth c D A 13 0 0 (MQ below (x_QP D A (some (.int (nI 1))) (fun w2 => ∃ T, Iv T (t + 25) (m9 + 12) ∧ w2 = wl kc ad T (cS T) (hS T) [])) args s rm_L_step.cells rm_L_step.slots A) (wl kc ad X (cS X) (hS X) []) 202 [some (.ref (ad 0)), some (.ref (ad 6)), some (.ref (ad 7)), some (.int (nI c0)), some (.int (nI a)), some (.int (nI b)), some (.int (nI lb)), some (.int (nI (b % 3))), none, none, none, none, none] [] := by
      have J : ∀ v, v ≤ 9999 → x_X p l e rm_L_step s m args below meth c D A 13 0 0 (MQ below (x_QP D A (some (.int (nI 1))) (fun w2 => ∃ T, Iv T (t + 25) (m9 + 12) ∧ w2 = wl kc ad T (cS T) (hS T) [])) args s rm_L_step.cells rm_L_step.slots A) (wl kc ad X (cS X) (hS X) []) 263 [some (.ref (ad 0)), some (.ref (ad 6)), some (.ref (ad 7)), some (.int (nI c0)), some (.int (nI a)), some (.int (nI b)), some (.int (nI lb)), some (.int (nI (b % 3))), none, none, none, none, none] [.int (nI v), .int (nI (b % 3)), .ref (ad 6), .ref (ad 0)] := by
        intro v hv
        refine x_callS0 M TB hAA mv_L_prices kw_275 dL_step_263 (l_prices hI (by omega) hw3 hv) rfl ⟨by decide, by decide⟩ ⟨by decide, by decide⟩ (Nat.le_of_ble_eq_true rfl) ?_
        exact x_zretP M hr hlk dL_step_266 ⟨by decide, by decide⟩ (Or.inr rfl) rfl ⟨prc X (b % 3) v, Iv_w (Iv_prc hI (by omega) hw3 hv) (by omega) (by omega), rfl⟩
      have hp := hO.p (b % 3)
      refine x_aload0 M dL_step_202 ?_
      refine x_aload1 M dL_step_203 ?_
      refine x_iload7 M dL_step_204 ?_
      refine x_iload4 M dL_step_206 ?_
      refine x_iconst (v := nI 5) M dL_step_208 (by decide +kernel) ?_
      refine n_rem M (by first | omega | exact hB _ _ | exact hC _ _) (by omega) (by first | omega | exact hB _ _ | exact hC _ _) dL_step_209 ?_
      refine n_if_ne (tgt := 224) M (by first | omega | exact hB _ _ | exact hC _ _) dL_step_210 (by decide) (fun q210 => ?_) (fun q210 => ?_)
      · refine x_iload4 M dL_step_224 ?_
        refine x_iconst (v := nI 3) M dL_step_226 (by decide +kernel) ?_
        refine n_rem M (by first | omega | exact hB _ _ | exact hC _ _) (by omega) (by first | omega | exact hB _ _ | exact hC _ _) dL_step_227 ?_
        refine n_if_ne (tgt := 245) M (by first | omega | exact hB _ _ | exact hC _ _) dL_step_228 (by decide) (fun q228 => ?_) (fun q228 => ?_)
        · refine x_aload0 M dL_step_245 ?_
          refine x_iload7 M dL_step_246 ?_
          refine x_callV0 M TB hAA mv_X2_price kw_259 dL_step_248 (c_price (X := X) hw12) rfl wl_X rfl rfl ⟨by decide, by decide⟩ ⟨by decide, by decide⟩ (Nat.le_of_ble_eq_true rfl) ?_
          refine x_iload5 M dL_step_251 ?_
          refine x_iconst (v := nI 3) M dL_step_253 (by decide +kernel) ?_
          refine n_div M (by first | omega | exact hB _ _ | exact hC _ _) (by omega) (by first | omega | exact hB _ _ | exact hC _ _) dL_step_254 ?_
          refine x_bipush (v := nI 40) M dL_step_255 (by decide +kernel) ?_
          refine n_rem M (by first | omega | exact hB _ _ | exact hC _ _) (by omega) (by first | omega | exact hB _ _ | exact hC _ _) dL_step_257 ?_
          refine n_add M dL_step_258 ?_
          refine x_sipush (v := nI 10000) M dL_step_259 (by decide +kernel) ?_
          refine n_rem M (by first | omega | exact hB _ _ | exact hC _ _) (by omega) (by first | omega | exact hB _ _ | exact hC _ _) dL_step_262 ?_
          exact J _ (by omega)
        · refine x_iload5 M dL_step_231 ?_
          refine x_iconst (v := nI 3) M dL_step_233 (by decide +kernel) ?_
          refine n_div M (by first | omega | exact hB _ _ | exact hC _ _) (by omega) (by first | omega | exact hB _ _ | exact hC _ _) dL_step_234 ?_
          refine x_bipush (v := nI 10) M dL_step_235 (by decide +kernel) ?_
          refine n_rem M (by first | omega | exact hB _ _ | exact hC _ _) (by omega) (by first | omega | exact hB _ _ | exact hC _ _) dL_step_237 ?_
          refine x_sipush (v := nI 1111) M dL_step_238 (by decide +kernel) ?_
          refine n_mul M dL_step_241 ?_
          refine x_goto (tgt := 263) M dL_step_242 (by decide) ?_
          exact J _ (by omega)
      · refine x_iload5 M dL_step_213 ?_
        refine x_iconst (v := nI 3) M dL_step_215 (by decide +kernel) ?_
        refine n_div M (by first | omega | exact hB _ _ | exact hC _ _) (by omega) (by first | omega | exact hB _ _ | exact hC _ _) dL_step_216 ?_
        refine x_sipush (v := nI 10000) M dL_step_217 (by decide +kernel) ?_
        refine n_rem M (by first | omega | exact hB _ _ | exact hC _ _) (by omega) (by first | omega | exact hB _ _ | exact hC _ _) dL_step_220 ?_
        refine x_goto (tgt := 263) M dL_step_221 (by decide) ?_
        exact J _ (by omega)
    have K267 : x_X p l e rm_L_step s m args below meth c D A 13 0 0 (MQ below (x_QP D A (some (.int (nI 1))) (fun w2 => ∃ T, Iv T (t + 25) (m9 + 12) ∧ w2 = wl kc ad T (cS T) (hS T) [])) args s rm_L_step.cells rm_L_step.slots A) (wl kc ad X (cS X) (hS X) []) 267 [some (.ref (ad 0)), some (.ref (ad 6)), some (.ref (ad 7)), some (.int (nI c0)), some (.int (nI a)), some (.int (nI b)), some (.int (nI lb)), some (.int (nI (b % 3))), none, none, none, none, none] [] := by
      have hcl : cS X 0 (3 + lb) = X 2 lb := cS_w X hlb2
      have hlp := lie_pos X hn
      have K284 : x_X p l e rm_L_step s m args below meth c D A 13 0 0 (MQ below (x_QP D A (some (.int (nI 1))) (fun w2 => ∃ T, Iv T (t + 25) (m9 + 12) ∧ w2 = wl kc ad T (cS T) (hS T) [])) args s rm_L_step.cells rm_L_step.slots A) (wl kc ad X (cS X) (hS X) []) 284 [some (.ref (ad 0)), some (.ref (ad 6)), some (.ref (ad 7)), some (.int (nI c0)), some (.int (nI a)), some (.int (nI b)), some (.int (nI lb)), some (.int (nI (b % 3))), none, none, none, none, none] [] := by
        refine x_aload0 M dL_step_284 ?_
        refine x_callV0 M TB hAA mv_X2_lies kw_305 dL_step_285 (c_lies hO) rfl wl_X rfl rfl ⟨by decide, by decide⟩ ⟨by decide, by decide⟩ (Nat.le_of_ble_eq_true rfl) ?_
        refine x_if_lt (tgt := 295) M dL_step_288 (by decide) (fun q288 => absurd q288 hlp) (fun q288 => ?_)
        refine x_iconst (v := nI 1) M dL_step_291 (by decide +kernel) ?_
        refine x_goto (tgt := 296) M dL_step_292 (by decide) ?_
        exact x_zretP M hr hlk dL_step_296 ⟨by decide, by decide⟩ (Or.inr rfl) rfl ⟨X, Iv_w hI (by omega) (by omega), rfl⟩
      by_cases hj0 : X 0 0 = 0
      · skip
        refine x_aload1 M dL_step_267 ?_
        refine x_iconst (v := nI 1) M dL_step_268 (by decide +kernel) ?_
        refine aCv M TB hc1 (by omega) dL_step_269 ?_
        refine n_if_eq (tgt := 284) M (by first | omega | exact hB _ _ | exact hC _ _) dL_step_270 (by decide) (fun q270 => ?_) (fun q270 => absurd hj0 q270)
        exact K284
      · have hj : lb < X 0 0 := hlb (by omega)
        by_cases hwe : X 2 lb = b % 3
        · skip
          refine x_aload1 M dL_step_267 ?_
          refine x_iconst (v := nI 1) M dL_step_268 (by decide +kernel) ?_
          refine aCv M TB hc1 (by omega) dL_step_269 ?_
          refine n_if_eq (tgt := 284) M (by first | omega | exact hB _ _ | exact hC _ _) dL_step_270 (by decide) (fun q270 => absurd q270 hj0) (fun q270 => ?_)
          refine x_aload1 M dL_step_273 ?_
          refine x_iconst (v := nI 3) M dL_step_274 (by decide +kernel) ?_
          refine x_iload6 M dL_step_275 ?_
          refine n_add M dL_step_277 ?_
          refine aCv M TB hcl (by omega) dL_step_278 ?_
          refine x_iload7 M dL_step_279 ?_
          refine n_icmp_ne (tgt := 297) M (by first | omega | exact hB _ _ | exact hC _ _) (by first | omega | exact hB _ _ | exact hC _ _) dL_step_281 (by decide) (fun q281 => absurd hwe q281) (fun q281 => ?_)
          exact K284
        · obtain ⟨r1, r2, r3, r4, r5, r6, r7⟩ := car_x X lb (b % 3)
          have hIc := Iv_car hI (by omega) hj hw3
          have hOc := hIc.1
          have hC : ∀ r i, (car X lb (b % 3)) r i < 2 ^ 31 := fun r i => Nat.lt_trans (hOc.bd r i) (by decide)
          have hjc : lb < (car X lb (b % 3)) 0 0 := by rw [r4]; exact hj
          have hc2b : up (cS X) 0 (3 + lb) (b % 3) 0 2 = X 0 2 := (up_i _ (by omega)).trans rfl
          have hcc := hO.w lb
          by_cases hg : X 3 lb = X 1 (b % 3)
          · obtain ⟨f1, f2⟩ := r6 hg
            refine x_aload1 M dL_step_267 ?_
            refine x_iconst (v := nI 1) M dL_step_268 (by decide +kernel) ?_
            refine aCv M TB hc1 (by omega) dL_step_269 ?_
            refine n_if_eq (tgt := 284) M (by first | omega | exact hB _ _ | exact hC _ _) dL_step_270 (by decide) (fun q270 => absurd q270 hj0) (fun q270 => ?_)
            refine x_aload1 M dL_step_273 ?_
            refine x_iconst (v := nI 3) M dL_step_274 (by decide +kernel) ?_
            refine x_iload6 M dL_step_275 ?_
            refine n_add M dL_step_277 ?_
            refine aCv M TB hcl (by omega) dL_step_278 ?_
            refine x_iload7 M dL_step_279 ?_
            refine n_icmp_ne (tgt := 297) M (by first | omega | exact hB _ _ | exact hC _ _) (by first | omega | exact hB _ _ | exact hC _ _) dL_step_281 (by decide) (fun q281 => ?_) (fun q281 => absurd q281 hwe)
            refine x_aload1 M dL_step_297 ?_
            refine x_iconst (v := nI 3) M dL_step_298 (by decide +kernel) ?_
            refine x_iload6 M dL_step_299 ?_
            refine n_add M dL_step_301 ?_
            refine x_iload7 M dL_step_302 ?_
            refine sC M TB (by omega) dL_step_304 ?_
            refine x_aload0 M dL_step_305 ?_
            refine x_iload6 M dL_step_306 ?_
            refine x_callV0 M TB hAA mv_X2_shown kw_250 dL_step_308 (c_shown (X := X) hO hj) rfl wl_X rfl rfl ⟨by decide, by decide⟩ ⟨by decide, by decide⟩ (Nat.le_of_ble_eq_true rfl) ?_
            refine x_aload0 M dL_step_311 ?_
            refine x_iload7 M dL_step_312 ?_
            refine x_callV0 M TB hAA mv_X2_price kw_259 dL_step_314 (c_price (X := X) hw12) rfl wl_X rfl rfl ⟨by decide, by decide⟩ ⟨by decide, by decide⟩ (Nat.le_of_ble_eq_true rfl) ?_
            refine n_icmp_eq (tgt := 324) M (by first | omega | exact hB _ _ | exact hC _ _) (by first | omega | exact hB _ _ | exact hC _ _) dL_step_317 (by decide) (fun q317 => ?_) (fun q317 => absurd hg q317)
            refine x_iconst (v := nI 0) M dL_step_324 (by decide +kernel) ?_
            refine x_istore8 M dL_step_325 ?_
            refine x_aload1 M dL_step_327 ?_
            refine x_iconst (v := nI 2) M dL_step_328 (by decide +kernel) ?_
            refine x_dup2 M dL_step_329 rfl rfl ?_
            refine aCv M TB hc2b (by omega) dL_step_330 ?_
            refine x_iload8 M dL_step_331 ?_
            refine n_if_eq (tgt := 340) M (by first | omega | exact hB _ _ | exact hC _ _) dL_step_333 (by decide) (fun q333 => ?_) (fun q333 => absurd rfl q333)
            refine x_iconst (v := nI 0) M dL_step_340 (by decide +kernel) ?_
            refine n_add M dL_step_341 ?_
            refine sC M TB (by omega) dL_step_342 ?_
            refine x_aload0 M dL_step_343 ?_
            refine x_iload6 M dL_step_344 ?_
            refine x_iload7 M dL_step_346 ?_
            refine x_callV0 M TB hAA mv_X2_carry kw_309 dL_step_348 (c_carry hO hj hw12 hwe) rfl wl_X rfl rfl ⟨by decide, by decide⟩ ⟨by decide, by decide⟩ (Nat.le_of_ble_eq_true rfl) ?_
            rw [show (if ¬ X 3 lb = X 1 (b % 3) then 1 else 0 : Int32) = nI 0 from (if_neg (fun h => h hg)).trans rfl]
            refine x_iload8 M dL_step_351 ?_
            refine n_icmp_ne (tgt := 381) M (by first | omega | exact hB _ _ | exact hC _ _) (by first | omega | exact hB _ _ | exact hC _ _) dL_step_353 (by decide) (fun q353 => absurd rfl q353) (fun q353 => ?_)
            refine x_aload0 M dL_step_356 ?_
            refine x_iload6 M dL_step_357 ?_
            refine x_callV0 M TB hAA mv_X2_order kw_271 dL_step_359 (c_order (X := (car X lb (b % 3))) hOc hjc) rfl wl_X rfl rfl ⟨by decide, by decide⟩ ⟨by decide, by decide⟩ (Nat.le_of_ble_eq_true rfl) ?_
            rw [show eo ((car X lb (b % 3)) 8 lb) = -1 from by rw [f1]; rfl]
            refine x_iload8 M dL_step_362 ?_
            refine n_if_eq (tgt := 373) M (by first | omega | exact hB _ _ | exact hC _ _) dL_step_364 (by decide) (fun q364 => ?_) (fun q364 => absurd rfl q364)
            refine x_iconst (v := (-1)) M dL_step_373 (by decide +kernel) ?_
            refine x_icmp_ne (tgt := 381) M dL_step_374 (by decide) (fun q374 => absurd rfl q374) (fun q374 => ?_)
            refine x_iconst (v := nI 1) M dL_step_377 (by decide +kernel) ?_
            refine x_goto (tgt := 382) M dL_step_378 (by decide) ?_
            exact x_zretP M hr hlk dL_step_382 ⟨by decide, by decide⟩ (Or.inr rfl) rfl ⟨(car X lb (b % 3)), Iv_w hIc (by omega) (by omega), by rw [cS_3 hlb2 r4 r5 (show (car X lb (b % 3)) 0 2 = X 0 2 + 0 from f2) r1 (fun i => r2 11 i (by omega)), hS_2 (fun i => r2 10 i (by omega))]⟩
          · obtain ⟨f1, f2⟩ := r7 hg
            have hc2c : up (up (cS X) 0 (3 + lb) (b % 3)) 0 2 (X 0 2 + 1) 0 2 = X 0 2 + 1 := up_s _ _ _ _
            refine x_aload1 M dL_step_267 ?_
            refine x_iconst (v := nI 1) M dL_step_268 (by decide +kernel) ?_
            refine aCv M TB hc1 (by omega) dL_step_269 ?_
            refine n_if_eq (tgt := 284) M (by first | omega | exact hB _ _ | exact hC _ _) dL_step_270 (by decide) (fun q270 => absurd q270 hj0) (fun q270 => ?_)
            refine x_aload1 M dL_step_273 ?_
            refine x_iconst (v := nI 3) M dL_step_274 (by decide +kernel) ?_
            refine x_iload6 M dL_step_275 ?_
            refine n_add M dL_step_277 ?_
            refine aCv M TB hcl (by omega) dL_step_278 ?_
            refine x_iload7 M dL_step_279 ?_
            refine n_icmp_ne (tgt := 297) M (by first | omega | exact hB _ _ | exact hC _ _) (by first | omega | exact hB _ _ | exact hC _ _) dL_step_281 (by decide) (fun q281 => ?_) (fun q281 => absurd q281 hwe)
            refine x_aload1 M dL_step_297 ?_
            refine x_iconst (v := nI 3) M dL_step_298 (by decide +kernel) ?_
            refine x_iload6 M dL_step_299 ?_
            refine n_add M dL_step_301 ?_
            refine x_iload7 M dL_step_302 ?_
            refine sC M TB (by omega) dL_step_304 ?_
            refine x_aload0 M dL_step_305 ?_
            refine x_iload6 M dL_step_306 ?_
            refine x_callV0 M TB hAA mv_X2_shown kw_250 dL_step_308 (c_shown (X := X) hO hj) rfl wl_X rfl rfl ⟨by decide, by decide⟩ ⟨by decide, by decide⟩ (Nat.le_of_ble_eq_true rfl) ?_
            refine x_aload0 M dL_step_311 ?_
            refine x_iload7 M dL_step_312 ?_
            refine x_callV0 M TB hAA mv_X2_price kw_259 dL_step_314 (c_price (X := X) hw12) rfl wl_X rfl rfl ⟨by decide, by decide⟩ ⟨by decide, by decide⟩ (Nat.le_of_ble_eq_true rfl) ?_
            refine n_icmp_eq (tgt := 324) M (by first | omega | exact hB _ _ | exact hC _ _) (by first | omega | exact hB _ _ | exact hC _ _) dL_step_317 (by decide) (fun q317 => absurd q317 hg) (fun q317 => ?_)
            refine x_iconst (v := nI 1) M dL_step_320 (by decide +kernel) ?_
            refine x_goto (tgt := 325) M dL_step_321 (by decide) ?_
            refine x_istore8 M dL_step_325 ?_
            refine x_aload1 M dL_step_327 ?_
            refine x_iconst (v := nI 2) M dL_step_328 (by decide +kernel) ?_
            refine x_dup2 M dL_step_329 rfl rfl ?_
            refine aCv M TB hc2b (by omega) dL_step_330 ?_
            refine x_iload8 M dL_step_331 ?_
            refine n_if_eq (tgt := 340) M (by first | omega | exact hB _ _ | exact hC _ _) dL_step_333 (by decide) (fun q333 => absurd q333 (by decide)) (fun q333 => ?_)
            refine x_iconst (v := nI 1) M dL_step_336 (by decide +kernel) ?_
            refine x_goto (tgt := 341) M dL_step_337 (by decide) ?_
            refine n_add M dL_step_341 ?_
            refine sC M TB (by omega) dL_step_342 ?_
            refine x_aload0 M dL_step_343 ?_
            refine x_iload6 M dL_step_344 ?_
            refine x_iload7 M dL_step_346 ?_
            refine x_callV0 M TB hAA mv_X2_carry kw_309 dL_step_348 (c_carry hO hj hw12 hwe) rfl wl_X rfl rfl ⟨by decide, by decide⟩ ⟨by decide, by decide⟩ (Nat.le_of_ble_eq_true rfl) ?_
            rw [show (if ¬ X 3 lb = X 1 (b % 3) then 1 else 0 : Int32) = nI 1 from (if_pos hg).trans rfl]
            refine x_iload8 M dL_step_351 ?_
            refine n_icmp_ne (tgt := 381) M (by first | omega | exact hB _ _ | exact hC _ _) (by first | omega | exact hB _ _ | exact hC _ _) dL_step_353 (by decide) (fun q353 => absurd rfl q353) (fun q353 => ?_)
            refine x_aload0 M dL_step_356 ?_
            refine x_iload6 M dL_step_357 ?_
            refine x_callV0 M TB hAA mv_X2_order kw_271 dL_step_359 (c_order (X := (car X lb (b % 3))) hOc hjc) rfl wl_X rfl rfl ⟨by decide, by decide⟩ ⟨by decide, by decide⟩ (Nat.le_of_ble_eq_true rfl) ?_
            rw [show eo ((car X lb (b % 3)) 8 lb) = nI (X 0 2 + 1) from by rw [f1]; exact eo_n (by omega)]
            refine x_iload8 M dL_step_362 ?_
            refine n_if_eq (tgt := 373) M (by first | omega | exact hB _ _ | exact hC _ _) dL_step_364 (by decide) (fun q364 => absurd q364 (by decide)) (fun q364 => ?_)
            refine x_aload1 M dL_step_367 ?_
            refine x_iconst (v := nI 2) M dL_step_368 (by decide +kernel) ?_
            refine aCv M TB hc2c (by omega) dL_step_369 ?_
            refine x_goto (tgt := 374) M dL_step_370 (by decide) ?_
            refine n_icmp_ne (tgt := 381) M (by first | omega | exact hB _ _ | exact hC _ _) (by first | omega | exact hB _ _ | exact hC _ _) dL_step_374 (by decide) (fun q374 => absurd rfl q374) (fun q374 => ?_)
            refine x_iconst (v := nI 1) M dL_step_377 (by decide +kernel) ?_
            refine x_goto (tgt := 382) M dL_step_378 (by decide) ?_
            exact x_zretP M hr hlk dL_step_382 ⟨by decide, by decide⟩ (Or.inr rfl) rfl ⟨(car X lb (b % 3)), Iv_w hIc (by omega) (by omega), by rw [cS_3 hlb2 r4 r5 (show (car X lb (b % 3)) 0 2 = X 0 2 + 1 from f2) r1 (fun i => r2 11 i (by omega)), hS_2 (fun i => r2 10 i (by omega))]⟩
    have K383 : x_X p l e rm_L_step s m args below meth c D A 13 0 0 (MQ below (x_QP D A (some (.int (nI 1))) (fun w2 => ∃ T, Iv T (t + 25) (m9 + 12) ∧ w2 = wl kc ad T (cS T) (hS T) [])) args s rm_L_step.cells rm_L_step.slots A) (wl kc ad X (cS X) (hS X) []) 383 [some (.ref (ad 0)), some (.ref (ad 6)), some (.ref (ad 7)), some (.int (nI c0)), some (.int (nI a)), some (.int (nI b)), some (.int (nI lb)), some (.int (nI (b % 3))), none, none, none, none, none] [] := by
      have K396 : x_X p l e rm_L_step s m args below meth c D A 13 0 0 (MQ below (x_QP D A (some (.int (nI 1))) (fun w2 => ∃ T, Iv T (t + 25) (m9 + 12) ∧ w2 = wl kc ad T (cS T) (hS T) [])) args s rm_L_step.cells rm_L_step.slots A) (wl kc ad X (cS X) (hS X) []) 396 [some (.ref (ad 0)), some (.ref (ad 6)), some (.ref (ad 7)), some (.int (nI c0)), some (.int (nI a)), some (.int (nI b)), some (.int (nI lb)), some (.int (nI (b % 3))), none, none, none, none, none] [] := by
        refine x_aload0 M dL_step_396 ?_
        refine x_callV0 M TB hAA mv_X2_time kw_106 dL_step_397 c_time rfl wl_X rfl rfl ⟨by decide, by decide⟩ ⟨by decide, by decide⟩ (Nat.le_of_ble_eq_true rfl) ?_
        refine x_aload1 M dL_step_400 ?_
        refine x_iconst (v := nI 0) M dL_step_401 (by decide +kernel) ?_
        refine aCv M TB hc0 (by omega) dL_step_402 ?_
        refine n_icmp_ne (tgt := 410) M (by first | omega | exact hB _ _ | exact hC _ _) (by first | omega | exact hB _ _ | exact hC _ _) dL_step_403 (by decide) (fun q403 => absurd rfl q403) (fun q403 => ?_)
        refine x_iconst (v := nI 1) M dL_step_406 (by decide +kernel) ?_
        refine x_goto (tgt := 411) M dL_step_407 (by decide) ?_
        exact x_zretP M hr hlk dL_step_411 ⟨by decide, by decide⟩ (Or.inr rfl) rfl ⟨X, Iv_w hI (by omega) (by omega), rfl⟩
      by_cases hj0 : X 0 0 = 0
      · skip
        refine x_aload1 M dL_step_383 ?_
        refine x_iconst (v := nI 1) M dL_step_384 (by decide +kernel) ?_
        refine aCv M TB hc1 (by omega) dL_step_385 ?_
        refine n_if_eq (tgt := 396) M (by first | omega | exact hB _ _ | exact hC _ _) dL_step_386 (by decide) (fun q386 => ?_) (fun q386 => absurd hj0 q386)
        exact K396
      · have hj : lb < X 0 0 := hlb (by omega)
        have hI5 : Iv (up X 5 lb 1000) t m9 := Iv_up hI (Or.inl rfl) hj (by decide)
        have hO5 := hI5.1
        refine x_aload1 M dL_step_383 ?_
        refine x_iconst (v := nI 1) M dL_step_384 (by decide +kernel) ?_
        refine aCv M TB hc1 (by omega) dL_step_385 ?_
        refine n_if_eq (tgt := 396) M (by first | omega | exact hB _ _ | exact hC _ _) dL_step_386 (by decide) (fun q386 => absurd q386 hj0) (fun q386 => ?_)
        refine x_iload5 M dL_step_389 ?_
        refine x_iconst (v := nI 4) M dL_step_391 (by decide +kernel) ?_
        refine n_rem M (by first | omega | exact hB _ _ | exact hC _ _) (by omega) (by first | omega | exact hB _ _ | exact hC _ _) dL_step_392 ?_
        refine n_if_le (tgt := 412) M (by first | omega | exact hB _ _ | exact hC _ _) dL_step_393 (by decide) (fun q393 => ?_) (fun q393 => ?_)
        · refine x_aload0 M dL_step_412 ?_
          refine x_iload6 M dL_step_413 ?_
          refine x_callV0 M TB hAA mv_X2_battery kw_263 dL_step_415 (c_battery (X := X) hO hj) rfl wl_X rfl rfl ⟨by decide, by decide⟩ ⟨by decide, by decide⟩ (Nat.le_of_ble_eq_true rfl) ?_
          refine x_istore9 M dL_step_418 ?_
          refine x_aload0 M dL_step_420 ?_
          refine x_iload6 M dL_step_421 ?_
          refine x_callV0 M TB hAA mv_X2_charge kw_314 dL_step_423 (c_charge (X := X) hO hj) rfl wl_X rfl rfl ⟨by decide, by decide⟩ ⟨by decide, by decide⟩ (Nat.le_of_ble_eq_true rfl) ?_
          refine x_iload9 M dL_step_426 ?_
          refine n_icmp_ne (tgt := 447) M (by first | omega | exact hB _ _ | exact hC _ _) (by first | omega | exact hB _ _ | exact hC _ _) dL_step_428 (by decide) (fun q428 => absurd rfl q428) (fun q428 => ?_)
          refine x_aload0 M dL_step_431 ?_
          refine x_iload6 M dL_step_432 ?_
          refine x_callV0 M TB hAA mv_X2_battery kw_263 dL_step_434 (c_battery (X := up X 5 lb 1000) hO5 (show lb < X 0 0 from hj)) rfl wl_X rfl rfl ⟨by decide, by decide⟩ ⟨by decide, by decide⟩ (Nat.le_of_ble_eq_true rfl) ?_
          rw [show up X 5 lb 1000 5 lb = 1000 from up_s _ _ _ _]
          refine x_sipush (v := nI 1000) M dL_step_437 (by decide +kernel) ?_
          refine n_icmp_ne (tgt := 447) M (by first | omega | exact hB _ _ | exact hC _ _) (by first | omega | exact hB _ _ | exact hC _ _) dL_step_440 (by decide) (fun q440 => absurd rfl q440) (fun q440 => ?_)
          refine x_iconst (v := nI 1) M dL_step_443 (by decide +kernel) ?_
          refine x_goto (tgt := 448) M dL_step_444 (by decide) ?_
          exact x_zretP M hr hlk dL_step_448 ⟨by decide, by decide⟩ (Or.inr rfl) rfl ⟨up X 5 lb 1000, Iv_w hI5 (by omega) (by omega), by rw [cS_eq (fun r i h => up_n _ (by omega)), hS_2 (fun i => up_n _ (by omega))]⟩
        · exact K396
    have K449 : x_X p l e rm_L_step s m args below meth c D A 13 0 0 (MQ below (x_QP D A (some (.int (nI 1))) (fun w2 => ∃ T, Iv T (t + 25) (m9 + 12) ∧ w2 = wl kc ad T (cS T) (hS T) [])) args s rm_L_step.cells rm_L_step.slots A) (wl kc ad X (cS X) (hS X) []) 449 [some (.ref (ad 0)), some (.ref (ad 6)), some (.ref (ad 7)), some (.int (nI c0)), some (.int (nI a)), some (.int (nI b)), some (.int (nI lb)), some (.int (nI (b % 3))), none, none, none, none, none] [] := by
      have hv20 : b % 21 ≤ 20 := by omega
      by_cases hj0 : X 0 0 = 0
      · skip
        refine x_aload1 M dL_step_449 ?_
        refine x_iconst (v := nI 1) M dL_step_450 (by decide +kernel) ?_
        refine aCv M TB hc1 (by omega) dL_step_451 ?_
        refine n_if_ne (tgt := 469) M (by first | omega | exact hB _ _ | exact hC _ _) dL_step_452 (by decide) (fun q452 => absurd hj0 q452) (fun q452 => ?_)
        refine x_aload0 M dL_step_455 ?_
        refine x_callV0 M TB hAA mv_X2_nextToSend kw_114 dL_step_456 (c_nextToSend hO.bd hn) rfl wl_X rfl rfl ⟨by decide, by decide⟩ ⟨by decide, by decide⟩ (Nat.le_of_ble_eq_true rfl) ?_
        rw [show oI (nxt X (X 0 0)) = -1 from by rw [hj0]; rfl]
        refine x_iconst (v := (-1)) M dL_step_459 (by decide +kernel) ?_
        refine x_icmp_ne (tgt := 467) M dL_step_460 (by decide) (fun q460 => absurd rfl q460) (fun q460 => ?_)
        refine x_iconst (v := nI 1) M dL_step_463 (by decide +kernel) ?_
        refine x_goto (tgt := 468) M dL_step_464 (by decide) ?_
        exact x_zretP M hr hlk dL_step_468 ⟨by decide, by decide⟩ (Or.inr rfl) rfl ⟨X, Iv_w hI (by omega) (by omega), rfl⟩
      · have hj : lb < X 0 0 := hlb (by omega)
        by_cases ha2 : a / 12 % 2 = 0
        · have hI6 : Iv (up X 6 lb (b % 21)) t m9 := Iv_up hI (Or.inr (Or.inl rfl)) hj (by omega)
          have hO6 := hI6.1
          have hC : ∀ r i, (up X 6 lb (b % 21)) r i < 2 ^ 31 := fun r i => Nat.lt_trans (hO6.bd r i) (by decide)
          refine x_aload1 M dL_step_449 ?_
          refine x_iconst (v := nI 1) M dL_step_450 (by decide +kernel) ?_
          refine aCv M TB hc1 (by omega) dL_step_451 ?_
          refine n_if_ne (tgt := 469) M (by first | omega | exact hB _ _ | exact hC _ _) dL_step_452 (by decide) (fun q452 => ?_) (fun q452 => absurd q452 hj0)
          refine x_iload5 M dL_step_469 ?_
          refine x_bipush (v := nI 21) M dL_step_471 (by decide +kernel) ?_
          refine n_rem M (by first | omega | exact hB _ _ | exact hC _ _) (by omega) (by first | omega | exact hB _ _ | exact hC _ _) dL_step_473 ?_
          refine x_istore10 M dL_step_474 ?_
          refine x_iload4 M dL_step_476 ?_
          refine x_bipush (v := nI 12) M dL_step_478 (by decide +kernel) ?_
          refine n_div M (by first | omega | exact hB _ _ | exact hC _ _) (by omega) (by first | omega | exact hB _ _ | exact hC _ _) dL_step_480 ?_
          refine x_iconst (v := nI 2) M dL_step_481 (by decide +kernel) ?_
          refine n_rem M (by first | omega | exact hB _ _ | exact hC _ _) (by omega) (by first | omega | exact hB _ _ | exact hC _ _) dL_step_482 ?_
          refine n_if_ne (tgt := 497) M (by first | omega | exact hB _ _ | exact hC _ _) dL_step_483 (by decide) (fun q483 => absurd ha2 q483) (fun q483 => ?_)
          refine x_aload0 M dL_step_486 ?_
          refine x_iload6 M dL_step_487 ?_
          refine x_iload10 M dL_step_489 ?_
          refine x_callV0 M TB hAA mv_X2_loseSendings kw_318 dL_step_491 (c_loseSendings (X := X) hO hj hv20) rfl wl_X rfl rfl ⟨by decide, by decide⟩ ⟨by decide, by decide⟩ (Nat.le_of_ble_eq_true rfl) ?_
          refine x_goto (tgt := 505) M dL_step_494 (by decide) ?_
          refine n_if_lt (tgt := 546) M (by first | omega | exact hB _ _ | exact hC _ _) dL_step_505 (by decide) (fun q505 => q505.elim) (fun q505 => ?_)
          refine x_iload4 M dL_step_508 ?_
          refine x_bipush (v := nI 12) M dL_step_510 (by decide +kernel) ?_
          refine n_div M (by first | omega | exact hB _ _ | exact hC _ _) (by omega) (by first | omega | exact hB _ _ | exact hC _ _) dL_step_512 ?_
          refine x_iconst (v := nI 2) M dL_step_513 (by decide +kernel) ?_
          refine n_rem M (by first | omega | exact hB _ _ | exact hC _ _) (by omega) (by first | omega | exact hB _ _ | exact hC _ _) dL_step_514 ?_
          refine n_if_ne (tgt := 529) M (by first | omega | exact hB _ _ | exact hC _ _) dL_step_515 (by decide) (fun q515 => absurd ha2 q515) (fun q515 => ?_)
          refine x_aload0 M dL_step_518 ?_
          refine x_iload6 M dL_step_519 ?_
          refine x_iload10 M dL_step_521 ?_
          refine x_callV0 M TB hAA mv_X2_loseSendings kw_318 dL_step_523 (c_loseSendings (X := (up X 6 lb (b % 21))) hO6 (show lb < X 0 0 from hj) hv20) rfl wl_X rfl rfl ⟨by decide, by decide⟩ ⟨by decide, by decide⟩ (Nat.le_of_ble_eq_true rfl) ?_
          rw [show (up X 6 lb (b % 21)) 6 lb = b % 21 from up_s _ _ _ _, up_up]
          refine x_goto (tgt := 537) M dL_step_526 (by decide) ?_
          refine x_iload10 M dL_step_537 ?_
          refine n_icmp_ne (tgt := 546) M (by first | omega | exact hB _ _ | exact hC _ _) (by first | omega | exact hB _ _ | exact hC _ _) dL_step_539 (by decide) (fun q539 => absurd rfl q539) (fun q539 => ?_)
          refine x_iconst (v := nI 1) M dL_step_542 (by decide +kernel) ?_
          refine x_goto (tgt := 547) M dL_step_543 (by decide) ?_
          exact x_zretP M hr hlk dL_step_547 ⟨by decide, by decide⟩ (Or.inr rfl) rfl ⟨(up X 6 lb (b % 21)), Iv_w hI6 (by omega) (by omega), by rw [cS_eq (fun r i h => up_n _ (by omega)), hS_2 (fun i => up_n _ (by omega))]⟩
        · have hI6 : Iv (up X 7 lb (b % 21)) t m9 := Iv_up hI (Or.inr (Or.inr rfl)) hj (by omega)
          have hO6 := hI6.1
          have hC : ∀ r i, (up X 7 lb (b % 21)) r i < 2 ^ 31 := fun r i => Nat.lt_trans (hO6.bd r i) (by decide)
          refine x_aload1 M dL_step_449 ?_
          refine x_iconst (v := nI 1) M dL_step_450 (by decide +kernel) ?_
          refine aCv M TB hc1 (by omega) dL_step_451 ?_
          refine n_if_ne (tgt := 469) M (by first | omega | exact hB _ _ | exact hC _ _) dL_step_452 (by decide) (fun q452 => ?_) (fun q452 => absurd q452 hj0)
          refine x_iload5 M dL_step_469 ?_
          refine x_bipush (v := nI 21) M dL_step_471 (by decide +kernel) ?_
          refine n_rem M (by first | omega | exact hB _ _ | exact hC _ _) (by omega) (by first | omega | exact hB _ _ | exact hC _ _) dL_step_473 ?_
          refine x_istore10 M dL_step_474 ?_
          refine x_iload4 M dL_step_476 ?_
          refine x_bipush (v := nI 12) M dL_step_478 (by decide +kernel) ?_
          refine n_div M (by first | omega | exact hB _ _ | exact hC _ _) (by omega) (by first | omega | exact hB _ _ | exact hC _ _) dL_step_480 ?_
          refine x_iconst (v := nI 2) M dL_step_481 (by decide +kernel) ?_
          refine n_rem M (by first | omega | exact hB _ _ | exact hC _ _) (by omega) (by first | omega | exact hB _ _ | exact hC _ _) dL_step_482 ?_
          refine n_if_ne (tgt := 497) M (by first | omega | exact hB _ _ | exact hC _ _) dL_step_483 (by decide) (fun q483 => ?_) (fun q483 => absurd q483 ha2)
          refine x_aload0 M dL_step_497 ?_
          refine x_iload6 M dL_step_498 ?_
          refine x_iload10 M dL_step_500 ?_
          refine x_callV0 M TB hAA mv_X2_loseAnswers kw_322 dL_step_502 (c_loseAnswers (X := X) hO hj hv20) rfl wl_X rfl rfl ⟨by decide, by decide⟩ ⟨by decide, by decide⟩ (Nat.le_of_ble_eq_true rfl) ?_
          refine n_if_lt (tgt := 546) M (by first | omega | exact hB _ _ | exact hC _ _) dL_step_505 (by decide) (fun q505 => q505.elim) (fun q505 => ?_)
          refine x_iload4 M dL_step_508 ?_
          refine x_bipush (v := nI 12) M dL_step_510 (by decide +kernel) ?_
          refine n_div M (by first | omega | exact hB _ _ | exact hC _ _) (by omega) (by first | omega | exact hB _ _ | exact hC _ _) dL_step_512 ?_
          refine x_iconst (v := nI 2) M dL_step_513 (by decide +kernel) ?_
          refine n_rem M (by first | omega | exact hB _ _ | exact hC _ _) (by omega) (by first | omega | exact hB _ _ | exact hC _ _) dL_step_514 ?_
          refine n_if_ne (tgt := 529) M (by first | omega | exact hB _ _ | exact hC _ _) dL_step_515 (by decide) (fun q515 => ?_) (fun q515 => absurd q515 ha2)
          refine x_aload0 M dL_step_529 ?_
          refine x_iload6 M dL_step_530 ?_
          refine x_iload10 M dL_step_532 ?_
          refine x_callV0 M TB hAA mv_X2_loseAnswers kw_322 dL_step_534 (c_loseAnswers (X := (up X 7 lb (b % 21))) hO6 (show lb < X 0 0 from hj) hv20) rfl wl_X rfl rfl ⟨by decide, by decide⟩ ⟨by decide, by decide⟩ (Nat.le_of_ble_eq_true rfl) ?_
          rw [show (up X 7 lb (b % 21)) 7 lb = b % 21 from up_s _ _ _ _, up_up]
          refine x_iload10 M dL_step_537 ?_
          refine n_icmp_ne (tgt := 546) M (by first | omega | exact hB _ _ | exact hC _ _) (by first | omega | exact hB _ _ | exact hC _ _) dL_step_539 (by decide) (fun q539 => absurd rfl q539) (fun q539 => ?_)
          refine x_iconst (v := nI 1) M dL_step_542 (by decide +kernel) ?_
          refine x_goto (tgt := 547) M dL_step_543 (by decide) ?_
          exact x_zretP M hr hlk dL_step_547 ⟨by decide, by decide⟩ (Or.inr rfl) rfl ⟨(up X 7 lb (b % 21)), Iv_w hI6 (by omega) (by omega), by rw [cS_eq (fun r i h => up_n _ (by omega)), hS_2 (fun i => up_n _ (by omega))]⟩
    have K548 : x_X p l e rm_L_step s m args below meth c D A 13 0 0 (MQ below (x_QP D A (some (.int (nI 1))) (fun w2 => ∃ T, Iv T (t + 25) (m9 + 12) ∧ w2 = wl kc ad T (cS T) (hS T) [])) args s rm_L_step.cells rm_L_step.slots A) (wl kc ad X (cS X) (hS X) []) 548 [some (.ref (ad 0)), some (.ref (ad 6)), some (.ref (ad 7)), some (.int (nI c0)), some (.int (nI a)), some (.int (nI b)), some (.int (nI lb)), some (.int (nI (b % 3))), none, none, none, none, none] [] := by
      by_cases ha4 : a % 4 = 0
      · have hK : (1 + b % 25) ≤ 25 := by omega
        have loop : ∀ (d k : Nat), k + d = (1 + b % 25) → x_X p l e rm_L_step s m args below meth c D A 13 (4 * k) (48 * k) (MQ below (x_QP D A (some (.int (nI 1))) (fun w2 => ∃ T, Iv T (t + 25) (m9 + 12) ∧ w2 = wl kc ad T (cS T) (hS T) [])) args s rm_L_step.cells rm_L_step.slots A) (wl kc ad (mnts X k).1 (cS (mnts X k).1) (hS (mnts X k).1) []) 554 [some (.ref (ad 0)), some (.ref (ad 6)), some (.ref (ad 7)), some (.int (nI c0)), some (.int (nI a)), some (.int (nI b)), some (.int (nI lb)), some (.int (nI (b % 3))), none, none, none, some (.int (nI 1)), some (.int (nI k))] [] := by
          intro d
          induction d with
          | zero =>
            intro k hk
            refine x_iload12 M dL_step_554 ?_
            refine x_iconst (v := nI 1) M dL_step_556 (by decide +kernel) ?_
            refine x_iload5 M dL_step_557 ?_
            refine x_iload4 M dL_step_559 ?_
            refine x_iconst (v := nI 4) M dL_step_561 (by decide +kernel) ?_
            refine n_rem M (by first | omega | exact hB _ _ | exact hC _ _) (by omega) (by first | omega | exact hB _ _ | exact hC _ _) dL_step_562 ?_
            refine n_if_ne (tgt := 571) M (by first | omega | exact hB _ _ | exact hC _ _) dL_step_563 (by decide) (fun q563 => absurd ha4 q563) (fun q563 => ?_)
            refine x_bipush (v := nI 25) M dL_step_566 (by decide +kernel) ?_
            refine x_goto (tgt := 573) M dL_step_568 (by decide) ?_
            refine n_rem M (by first | omega | exact hB _ _ | exact hC _ _) (by omega) (by first | omega | exact hB _ _ | exact hC _ _) dL_step_573 ?_
            refine n_add M dL_step_574 ?_
            refine n_icmp_ge (tgt := 597) M (by first | omega | exact hB _ _ | exact hC _ _) (by first | omega | exact hB _ _ | exact hC _ _) dL_step_575 (by decide) (fun q575 => ?_) (fun q575 => absurd q575 (by omega))
            refine x_iload11 M dL_step_597 ?_
            exact x_zretP M hr hlk dL_step_599 ⟨by show 4 * k ≤ 100; omega, by show 48 * k ≤ 1200; omega⟩ (Or.inr rfl) rfl ⟨(mnts X k).1, Iv_w (Iv_mnts hI k (by omega)).1 (by omega) (by omega), rfl⟩
          | succ d ih =>
            intro k hk
            have hIk := (Iv_mnts hI k (by omega)).1
            refine x_iload12 M dL_step_554 ?_
            refine x_iconst (v := nI 1) M dL_step_556 (by decide +kernel) ?_
            refine x_iload5 M dL_step_557 ?_
            refine x_iload4 M dL_step_559 ?_
            refine x_iconst (v := nI 4) M dL_step_561 (by decide +kernel) ?_
            refine n_rem M (by first | omega | exact hB _ _ | exact hC _ _) (by omega) (by first | omega | exact hB _ _ | exact hC _ _) dL_step_562 ?_
            refine n_if_ne (tgt := 571) M (by first | omega | exact hB _ _ | exact hC _ _) dL_step_563 (by decide) (fun q563 => absurd ha4 q563) (fun q563 => ?_)
            refine x_bipush (v := nI 25) M dL_step_566 (by decide +kernel) ?_
            refine x_goto (tgt := 573) M dL_step_568 (by decide) ?_
            refine n_rem M (by first | omega | exact hB _ _ | exact hC _ _) (by omega) (by first | omega | exact hB _ _ | exact hC _ _) dL_step_573 ?_
            refine n_add M dL_step_574 ?_
            refine n_icmp_ge (tgt := 597) M (by first | omega | exact hB _ _ | exact hC _ _) (by first | omega | exact hB _ _ | exact hC _ _) dL_step_575 (by decide) (fun q575 => absurd q575 (by omega)) (fun q575 => ?_)
            refine x_iload11 M dL_step_578 ?_
            refine n_if_eq (tgt := 597) M (by first | omega | exact hB _ _ | exact hC _ _) dL_step_580 (by decide) (fun q580 => absurd q580 (by decide)) (fun q580 => ?_)
            refine x_aload0 M dL_step_583 ?_
            refine x_aload1 M dL_step_584 ?_
            refine x_aload2 M dL_step_585 ?_
            refine x_callS M TB hAA mv_L_minute kw_326 dL_step_586 (l_minute hIk (by omega)) rfl ⟨by decide, by decide⟩ ⟨by show 4 * k + 4 ≤ 100; omega, by show 48 * k + 48 ≤ 1200; omega⟩ (Nat.le_of_ble_eq_true rfl) ?_
            refine x_istore11 M dL_step_589 ?_
            refine n_inc12 M rfl dL_step_591 ?_
            refine x_goto (tgt := 554) M dL_step_594 (by decide) ?_
            exact x_widen (by show 4 * k + 4 ≤ 4 * (k + 1); omega) (by show 48 * k + 48 ≤ 48 * (k + 1); omega) (ih (k + 1) (by omega))
        refine x_iconst (v := nI 1) M dL_step_548 (by decide +kernel) ?_
        refine x_istore11 M dL_step_549 ?_
        refine x_iconst (v := nI 0) M dL_step_551 (by decide +kernel) ?_
        refine x_istore12 M rfl dL_step_552 ?_
        exact loop (1 + b % 25) 0 (by omega)
      · have hK : (1 + b % 6) ≤ 25 := by omega
        have loop : ∀ (d k : Nat), k + d = (1 + b % 6) → x_X p l e rm_L_step s m args below meth c D A 13 (4 * k) (48 * k) (MQ below (x_QP D A (some (.int (nI 1))) (fun w2 => ∃ T, Iv T (t + 25) (m9 + 12) ∧ w2 = wl kc ad T (cS T) (hS T) [])) args s rm_L_step.cells rm_L_step.slots A) (wl kc ad (mnts X k).1 (cS (mnts X k).1) (hS (mnts X k).1) []) 554 [some (.ref (ad 0)), some (.ref (ad 6)), some (.ref (ad 7)), some (.int (nI c0)), some (.int (nI a)), some (.int (nI b)), some (.int (nI lb)), some (.int (nI (b % 3))), none, none, none, some (.int (nI 1)), some (.int (nI k))] [] := by
          intro d
          induction d with
          | zero =>
            intro k hk
            refine x_iload12 M dL_step_554 ?_
            refine x_iconst (v := nI 1) M dL_step_556 (by decide +kernel) ?_
            refine x_iload5 M dL_step_557 ?_
            refine x_iload4 M dL_step_559 ?_
            refine x_iconst (v := nI 4) M dL_step_561 (by decide +kernel) ?_
            refine n_rem M (by first | omega | exact hB _ _ | exact hC _ _) (by omega) (by first | omega | exact hB _ _ | exact hC _ _) dL_step_562 ?_
            refine n_if_ne (tgt := 571) M (by first | omega | exact hB _ _ | exact hC _ _) dL_step_563 (by decide) (fun q563 => ?_) (fun q563 => absurd q563 ha4)
            refine x_bipush (v := nI 6) M dL_step_571 (by decide +kernel) ?_
            refine n_rem M (by first | omega | exact hB _ _ | exact hC _ _) (by omega) (by first | omega | exact hB _ _ | exact hC _ _) dL_step_573 ?_
            refine n_add M dL_step_574 ?_
            refine n_icmp_ge (tgt := 597) M (by first | omega | exact hB _ _ | exact hC _ _) (by first | omega | exact hB _ _ | exact hC _ _) dL_step_575 (by decide) (fun q575 => ?_) (fun q575 => absurd q575 (by omega))
            refine x_iload11 M dL_step_597 ?_
            exact x_zretP M hr hlk dL_step_599 ⟨by show 4 * k ≤ 100; omega, by show 48 * k ≤ 1200; omega⟩ (Or.inr rfl) rfl ⟨(mnts X k).1, Iv_w (Iv_mnts hI k (by omega)).1 (by omega) (by omega), rfl⟩
          | succ d ih =>
            intro k hk
            have hIk := (Iv_mnts hI k (by omega)).1
            refine x_iload12 M dL_step_554 ?_
            refine x_iconst (v := nI 1) M dL_step_556 (by decide +kernel) ?_
            refine x_iload5 M dL_step_557 ?_
            refine x_iload4 M dL_step_559 ?_
            refine x_iconst (v := nI 4) M dL_step_561 (by decide +kernel) ?_
            refine n_rem M (by first | omega | exact hB _ _ | exact hC _ _) (by omega) (by first | omega | exact hB _ _ | exact hC _ _) dL_step_562 ?_
            refine n_if_ne (tgt := 571) M (by first | omega | exact hB _ _ | exact hC _ _) dL_step_563 (by decide) (fun q563 => ?_) (fun q563 => absurd q563 ha4)
            refine x_bipush (v := nI 6) M dL_step_571 (by decide +kernel) ?_
            refine n_rem M (by first | omega | exact hB _ _ | exact hC _ _) (by omega) (by first | omega | exact hB _ _ | exact hC _ _) dL_step_573 ?_
            refine n_add M dL_step_574 ?_
            refine n_icmp_ge (tgt := 597) M (by first | omega | exact hB _ _ | exact hC _ _) (by first | omega | exact hB _ _ | exact hC _ _) dL_step_575 (by decide) (fun q575 => absurd q575 (by omega)) (fun q575 => ?_)
            refine x_iload11 M dL_step_578 ?_
            refine n_if_eq (tgt := 597) M (by first | omega | exact hB _ _ | exact hC _ _) dL_step_580 (by decide) (fun q580 => absurd q580 (by decide)) (fun q580 => ?_)
            refine x_aload0 M dL_step_583 ?_
            refine x_aload1 M dL_step_584 ?_
            refine x_aload2 M dL_step_585 ?_
            refine x_callS M TB hAA mv_L_minute kw_326 dL_step_586 (l_minute hIk (by omega)) rfl ⟨by decide, by decide⟩ ⟨by show 4 * k + 4 ≤ 100; omega, by show 48 * k + 48 ≤ 1200; omega⟩ (Nat.le_of_ble_eq_true rfl) ?_
            refine x_istore11 M dL_step_589 ?_
            refine n_inc12 M rfl dL_step_591 ?_
            refine x_goto (tgt := 554) M dL_step_594 (by decide) ?_
            exact x_widen (by show 4 * k + 4 ≤ 4 * (k + 1); omega) (by show 48 * k + 48 ≤ 48 * (k + 1); omega) (ih (k + 1) (by omega))
        refine x_iconst (v := nI 1) M dL_step_548 (by decide +kernel) ?_
        refine x_istore11 M dL_step_549 ?_
        refine x_iconst (v := nI 0) M dL_step_551 (by decide +kernel) ?_
        refine x_istore12 M rfl dL_step_552 ?_
        exact loop (1 + b % 6) 0 (by omega)
    have h14 : c0 % 14 < 14 := Nat.mod_lt _ (by decide)
    obtain ⟨cs, hcs⟩ : ∃ cs, cs = c0 % 14 := ⟨_, rfl⟩
    refine x_iload5 M dL_step_18 ?_
    refine x_iconst (v := nI 3) M dL_step_20 (by decide +kernel) ?_
    refine n_rem M (by first | omega | exact hB _ _ | exact hC _ _) (by omega) (by first | omega | exact hB _ _ | exact hC _ _) dL_step_21 ?_
    refine x_istore7 M dL_step_22 ?_
    refine x_iload3 M dL_step_24 ?_
    refine x_bipush (v := nI 14) M dL_step_25 (by decide +kernel) ?_
    refine n_rem M (by first | omega | exact hB _ _ | exact hC _ _) (by omega) (by first | omega | exact hB _ _ | exact hC _ _) dL_step_27 ?_
    rw [← hcs]
    rcases (show cs = 0 ∨ cs = 1 ∨ cs = 2 ∨ cs = 3 ∨ cs = 4 ∨ cs = 5 ∨ cs = 6 ∨ cs = 7 ∨ cs = 8 ∨ cs = 9 ∨ 10 ≤ cs by omega) with h0 | h1 | h2 | h3 | h4 | h5 | h6 | h7 | h8 | h9 | h10
    · rw [h0]
      refine x_tabIn (off := 56) (tgt := 84) M dL_step_28 (by decide +kernel) (by decide +kernel) (by decide +kernel) (by decide) ?_
      exact K84
    · rw [h1]
      refine x_tabIn (off := 56) (tgt := 84) M dL_step_28 (by decide +kernel) (by decide +kernel) (by decide +kernel) (by decide) ?_
      exact K84
    · rw [h2]
      refine x_tabIn (off := 174) (tgt := 202) M dL_step_28 (by decide +kernel) (by decide +kernel) (by decide +kernel) (by decide) ?_
      exact K202
    · rw [h3]
      refine x_tabIn (off := 174) (tgt := 202) M dL_step_28 (by decide +kernel) (by decide +kernel) (by decide +kernel) (by decide) ?_
      exact K202
    · rw [h4]
      refine x_tabIn (off := 174) (tgt := 202) M dL_step_28 (by decide +kernel) (by decide +kernel) (by decide +kernel) (by decide) ?_
      exact K202
    · rw [h5]
      refine x_tabIn (off := 174) (tgt := 202) M dL_step_28 (by decide +kernel) (by decide +kernel) (by decide +kernel) (by decide) ?_
      exact K202
    · rw [h6]
      refine x_tabIn (off := 239) (tgt := 267) M dL_step_28 (by decide +kernel) (by decide +kernel) (by decide +kernel) (by decide) ?_
      exact K267
    · rw [h7]
      refine x_tabIn (off := 355) (tgt := 383) M dL_step_28 (by decide +kernel) (by decide +kernel) (by decide +kernel) (by decide) ?_
      exact K383
    · rw [h8]
      refine x_tabIn (off := 421) (tgt := 449) M dL_step_28 (by decide +kernel) (by decide +kernel) (by decide +kernel) (by decide) ?_
      exact K449
    · rw [h9]
      refine x_tabIn (off := 421) (tgt := 449) M dL_step_28 (by decide +kernel) (by decide +kernel) (by decide +kernel) (by decide) ?_
      exact K449
    · refine x_tabOut (tgt := 548) M dL_step_28 (Or.inr (by rw [nI_toInt (by omega)]; omega)) (by decide) ?_
      exact K548
  refine x_aload1 M dL_step_0 ?_
  refine x_iconst (v := nI 1) M dL_step_1 (by decide +kernel) ?_
  refine aCv M TB hc1 (by omega) dL_step_2 ?_
  refine n_if_ne (tgt := 10) M (by first | omega | exact hB _ _ | exact hC _ _) dL_step_3 (by decide) (fun q3 => ?_) (fun q3 => ?_)
  · refine x_iload4 M dL_step_10 ?_
    refine x_aload1 M dL_step_12 ?_
    refine x_iconst (v := nI 1) M dL_step_13 (by decide +kernel) ?_
    refine aCv M TB hc1 (by omega) dL_step_14 ?_
    refine n_rem M (by first | omega | exact hB _ _ | exact hC _ _) (by omega) (by first | omega | exact hB _ _ | exact hC _ _) dL_step_15 ?_
    refine x_istore6 M dL_step_16 ?_
    exact J18 _ (fun h => Nat.mod_lt _ h) (Nat.lt_of_lt_of_le (Nat.mod_lt _ (by omega)) hn)
  · refine x_iconst (v := nI 0) M dL_step_6 (by decide +kernel) ?_
    refine x_goto (tgt := 16) M dL_step_7 (by decide) ?_
    refine x_istore6 M dL_step_16 ?_
    exact J18 _ (fun h => absurd q3 (by omega)) (by decide)
end XM
