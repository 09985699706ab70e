/-! THE LAW's CASES -/
section XK
variable {p : Program} {l : Launch} {e : Env} {s : State} {m : MethodId} {below : List Frame} {meth : Method} {c : Code} {D : va_G} {A : Nat → Prop} {kc : Nat → ClassId} {ad : Nat → Nat} {b L k : Nat} {xs : Nat → Int32} {S : St} {th : Nat} {ov : Int64} {hw : Nat} {l5 l6 : Option Value}
set_option maxRecDepth 20000 in
set_option maxHeartbeats 2000000 in
theorem k_setPrice (M : CallFix p m c cL_law 7 s #[Value.ref b] gw RL) (TB : x_TB D kc A s s.heap) (hAA : ∀ q : Nat, s.heap.size ≤ q → A q) (hX : va_X b L xs s s.heap) (hbl : b < s.heap.size) (hbA : ¬ A b) (hL : L ≤ 1536) (hk : k + 3 ≤ L) {a1 a2 : Int32} (ha1 : xs (k + 1) = a1) (ha2 : xs (k + 2) = a2) {rm : Room} {z : Nat} {S2 : St} {ov2 : Int64} {hw2 : Nat} {r : Int32} (hz : z < 2 ^ 31) (hR : rm.frames + 1 ≤ room_1.frames ∧ 8 + (5 + 11) + rm.locals ≤ room_1.locals) (hc : rm.cells ≤ 3 ∧ rm.slots ≤ 18)
    (hH : x_RetW l D kc A yL_setPrice cL_setPrice 5 (some FieldType.int) [(0, 10, 13, 13), (0, 10, 17, 15)] rm [.ref (ad 0), .int a1, .int a2, .ref (ad 18)] (wl kc ad S S th ov hw) (some (.int (nI z))) (wl kc ad S2 S th ov2 hw)) (hM : x_Ret l D kc A yX3_setPrice cX3_setPrice 5 (some FieldType.int) rm_X3_setPrice [.ref (ad 6), .int a1, .int a2] (wl kc ad S2 S th ov2 hw) (some (.int r)) (wl kc ad S2 S2 z ov2 hw2)) (hr : z = 0 → ov2 = r.toInt64)
    (kk : ∀ l5 l6, x_X p l e room_1 s m #[Value.ref b] below meth c D A 7 (200 + (k + 3)) (3000 + 6 * (k + 3)) (lw_Z below #[Value.ref b] s) (wl kc ad S2 S2 z ov2 hw2) 1015 [some (.ref b), some (.ref (ad 0)), some (.ref (ad 6)), some (.ref (ad 18)), some (.int (nI k)), l5, l6] []) : x_X p l e room_1 s m #[Value.ref b] below meth c D A 7 (200 + k) (3000 + 6 * k) (lw_Z below #[Value.ref b] s) (wl kc ad S S th ov hw) 124 [some (.ref b), some (.ref (ad 0)), some (.ref (ad 6)), some (.ref (ad 18)), some (.int (nI k)), l5, l6] [] := by
  refine x_aload1 M dL_law_124 ?_
  refine x_aload0 M dL_law_125 ?_
  refine x_iload4 M dL_law_126 ?_
  refine x_iconst (v := nI 1) M dL_law_128 (by decide +kernel) ?_
  refine n_add M dL_law_129 ?_
  refine x_sld M hX hbl hbA ha1 (by omega) hL dL_law_130 ?_
  refine x_aload0 M dL_law_131 ?_
  refine x_iload4 M dL_law_132 ?_
  refine x_iconst (v := nI 2) M dL_law_134 (by decide +kernel) ?_
  refine n_add M dL_law_135 ?_
  refine x_sld M hX hbl hbA ha2 (by omega) hL dL_law_136 ?_
  refine x_aload3 M dL_law_137 ?_
  refine x_callW M TB hAA mv_L_setPrice kw_139 dL_law_138 hH rfl hR ⟨by show 200 + k + rm.cells ≤ 601024; omega, by show 3000 + 6 * k + rm.slots ≤ 7293034; omega⟩ (Nat.le_of_ble_eq_true rfl) ?_
  refine x_widen (k := 200 + (k + 3)) (n := 3000 + 6 * (k + 3)) (by omega) (by omega) ?_
  refine x_istore5 M dL_law_141 ?_
  refine x_aload2 M dL_law_143 ?_
  refine x_aload0 M dL_law_144 ?_
  refine x_iload4 M dL_law_145 ?_
  refine x_iconst (v := nI 1) M dL_law_147 (by decide +kernel) ?_
  refine n_add M dL_law_148 ?_
  refine x_sld M hX hbl hbA ha1 (by omega) hL dL_law_149 ?_
  refine x_aload0 M dL_law_150 ?_
  refine x_iload4 M dL_law_151 ?_
  refine x_iconst (v := nI 2) M dL_law_153 (by decide +kernel) ?_
  refine n_add M dL_law_154 ?_
  refine x_sld M hX hbl hbA ha2 (by omega) hL dL_law_155 ?_
  refine x_callV0 M TB hAA mv_X3_setPrice kw_465 dL_law_156 hM rfl wl_M rfl rfl ⟨by decide, by decide⟩ ⟨⟨rfl, rfl⟩, (by show 200 + (k + 3) ≤ 601024; omega), (by show 3000 + 6 * (k + 3) ≤ 7293034; omega)⟩ (Nat.le_of_ble_eq_true rfl) ?_
  refine x_istore6 M dL_law_159 ?_
  refine x_aload2 M dL_law_161 ?_
  refine x_callV0 M TB hAA mv_X3_thrown kw_461 dL_law_162 m_thrown rfl wl_M rfl rfl ⟨by decide, by decide⟩ ⟨⟨rfl, rfl⟩, (by show 200 + (k + 3) ≤ 601024; omega), (by show 3000 + 6 * (k + 3) ≤ 7293034; omega)⟩ (Nat.le_of_ble_eq_true rfl) ?_
  refine x_iload5 M dL_law_165 ?_
  refine n_icmp_eq (tgt := 172) M (by first | omega | exact hB _ _) (by first | omega | exact hB _ _) dL_law_167 (by decide) (fun q167 => ?_) (fun q167 => absurd rfl q167)
  refine x_iload5 M dL_law_172 ?_
  refine n_if_ne (tgt := 189) M (by first | omega | exact hB _ _) dL_law_174 (by decide) (fun q174 => ?_) (fun q174 => ?_)
  · refine x_goto (tgt := 1015) M dL_law_189 (by decide) ?_
    exact kk _ _
  · refine x_aload3 M dL_law_177 ?_
    refine x_iconst (v := nI 0) M dL_law_178 (by decide +kernel) ?_
    refine aQ M TB dL_law_179 ?_
    refine x_iload6 M dL_law_180 ?_
    refine x_i2l M dL_law_182 ?_
    refine x_lcmp M dL_law_183 ?_
    rw [show lg_cmp ov2 r.toInt64 = 0 from by rw [hr q174, lcmp_0]]
    refine x_if_eq (tgt := 189) M dL_law_184 (by decide) (fun q184 => ?_) (fun q184 => absurd rfl q184)
    refine x_goto (tgt := 1015) M dL_law_189 (by decide) ?_
    exact kk _ _
set_option maxRecDepth 20000 in
set_option maxHeartbeats 2000000 in
theorem k_price (M : CallFix p m c cL_law 7 s #[Value.ref b] gw RL) (TB : x_TB D kc A s s.heap) (hAA : ∀ q : Nat, s.heap.size ≤ q → A q) (hX : va_X b L xs s s.heap) (hbl : b < s.heap.size) (hbA : ¬ A b) (hL : L ≤ 1536) (hk : k + 3 ≤ L) {a1 : Int32} (ha1 : xs (k + 1) = a1) {rm : Room} {z : Nat} {S2 : St} {ov2 : Int64} {hw2 : Nat} {r : Int32} (hz : z < 2 ^ 31) (hR : rm.frames + 1 ≤ room_1.frames ∧ 8 + (4 + 11) + rm.locals ≤ room_1.locals) (hc : rm.cells ≤ 3 ∧ rm.slots ≤ 18)
    (hH : x_RetW l D kc A yL_price cL_price 4 (some FieldType.int) [(0, 9, 12, 13)] rm [.ref (ad 0), .int a1, .ref (ad 18)] (wl kc ad S S th ov hw) (some (.int (nI z))) (wl kc ad S2 S th ov2 hw)) (hM : x_Ret l D kc A yX3_price cX3_price 2 (some FieldType.int) rm_X3_price [.ref (ad 6), .int a1] (wl kc ad S2 S th ov2 hw) (some (.int r)) (wl kc ad S2 S2 z ov2 hw2)) (hr : z = 0 → ov2 = r.toInt64)
    (kk : ∀ l5 l6, x_X p l e room_1 s m #[Value.ref b] below meth c D A 7 (200 + (k + 3)) (3000 + 6 * (k + 3)) (lw_Z below #[Value.ref b] s) (wl kc ad S2 S2 z ov2 hw2) 1015 [some (.ref b), some (.ref (ad 0)), some (.ref (ad 6)), some (.ref (ad 18)), some (.int (nI k)), l5, l6] []) : x_X p l e room_1 s m #[Value.ref b] below meth c D A 7 (200 + k) (3000 + 6 * k) (lw_Z below #[Value.ref b] s) (wl kc ad S S th ov hw) 192 [some (.ref b), some (.ref (ad 0)), some (.ref (ad 6)), some (.ref (ad 18)), some (.int (nI k)), l5, l6] [] := by
  refine x_aload1 M dL_law_192 ?_
  refine x_aload0 M dL_law_193 ?_
  refine x_iload4 M dL_law_194 ?_
  refine x_iconst (v := nI 1) M dL_law_196 (by decide +kernel) ?_
  refine n_add M dL_law_197 ?_
  refine x_sld M hX hbl hbA ha1 (by omega) hL dL_law_198 ?_
  refine x_aload3 M dL_law_199 ?_
  refine x_callW M TB hAA mv_L_price kw_242 dL_law_200 hH rfl hR ⟨by show 200 + k + rm.cells ≤ 601024; omega, by show 3000 + 6 * k + rm.slots ≤ 7293034; omega⟩ (Nat.le_of_ble_eq_true rfl) ?_
  refine x_widen (k := 200 + (k + 3)) (n := 3000 + 6 * (k + 3)) (by omega) (by omega) ?_
  refine x_istore5 M dL_law_203 ?_
  refine x_aload2 M dL_law_205 ?_
  refine x_aload0 M dL_law_206 ?_
  refine x_iload4 M dL_law_207 ?_
  refine x_iconst (v := nI 1) M dL_law_209 (by decide +kernel) ?_
  refine n_add M dL_law_210 ?_
  refine x_sld M hX hbl hbA ha1 (by omega) hL dL_law_211 ?_
  refine x_callV0 M TB hAA mv_X3_price kw_483 dL_law_212 hM rfl wl_M rfl rfl ⟨by decide, by decide⟩ ⟨⟨rfl, rfl⟩, (by show 200 + (k + 3) ≤ 601024; omega), (by show 3000 + 6 * (k + 3) ≤ 7293034; omega)⟩ (Nat.le_of_ble_eq_true rfl) ?_
  refine x_istore6 M dL_law_215 ?_
  refine x_aload2 M dL_law_217 ?_
  refine x_callV0 M TB hAA mv_X3_thrown kw_461 dL_law_218 m_thrown rfl wl_M rfl rfl ⟨by decide, by decide⟩ ⟨⟨rfl, rfl⟩, (by show 200 + (k + 3) ≤ 601024; omega), (by show 3000 + 6 * (k + 3) ≤ 7293034; omega)⟩ (Nat.le_of_ble_eq_true rfl) ?_
  refine x_iload5 M dL_law_221 ?_
  refine n_icmp_eq (tgt := 228) M (by first | omega | exact hB _ _) (by first | omega | exact hB _ _) dL_law_223 (by decide) (fun q223 => ?_) (fun q223 => absurd rfl q223)
  refine x_iload5 M dL_law_228 ?_
  refine n_if_ne (tgt := 245) M (by first | omega | exact hB _ _) dL_law_230 (by decide) (fun q230 => ?_) (fun q230 => ?_)
  · refine x_goto (tgt := 1015) M dL_law_245 (by decide) ?_
    exact kk _ _
  · refine x_aload3 M dL_law_233 ?_
    refine x_iconst (v := nI 0) M dL_law_234 (by decide +kernel) ?_
    refine aQ M TB dL_law_235 ?_
    refine x_iload6 M dL_law_236 ?_
    refine x_i2l M dL_law_238 ?_
    refine x_lcmp M dL_law_239 ?_
    rw [show lg_cmp ov2 r.toInt64 = 0 from by rw [hr q230, lcmp_0]]
    refine x_if_eq (tgt := 245) M dL_law_240 (by decide) (fun q240 => ?_) (fun q240 => absurd rfl q240)
    refine x_goto (tgt := 1015) M dL_law_245 (by decide) ?_
    exact kk _ _
set_option maxRecDepth 20000 in
set_option maxHeartbeats 2000000 in
theorem k_hang (M : CallFix p m c cL_law 7 s #[Value.ref b] gw RL) (TB : x_TB D kc A s s.heap) (hAA : ∀ q : Nat, s.heap.size ≤ q → A q) (hX : va_X b L xs s s.heap) (hbl : b < s.heap.size) (hbA : ¬ A b) (hL : L ≤ 1536) (hk : k + 3 ≤ L) {a1 : Int32} (ha1 : xs (k + 1) = a1) {rm : Room} {z : Nat} {S2 : St} {ov2 : Int64} {hw2 : Nat} {r : Int32} (hz : z < 2 ^ 31) (hR : rm.frames + 1 ≤ room_1.frames ∧ 8 + (4 + 11) + rm.locals ≤ room_1.locals) (hc : rm.cells ≤ 3 ∧ rm.slots ≤ 18)
    (hH : x_RetW l D kc A yL_hang cL_hang 4 (some FieldType.int) [(0, 9, 12, 13), (0, 9, 15, 24)] rm [.ref (ad 0), .int a1, .ref (ad 18)] (wl kc ad S S th ov hw) (some (.int (nI z))) (wl kc ad S2 S th ov2 hw)) (hM : x_Ret l D kc A yX3_hang cX3_hang 3 (some FieldType.int) rm_X3_hang [.ref (ad 6), .int a1] (wl kc ad S2 S th ov2 hw) (some (.int r)) (wl kc ad S2 S2 z ov2 hw2)) (hr : z = 0 → ov2 = r.toInt64)
    (kk : ∀ l5 l6, x_X p l e room_1 s m #[Value.ref b] below meth c D A 7 (200 + (k + 3)) (3000 + 6 * (k + 3)) (lw_Z below #[Value.ref b] s) (wl kc ad S2 S2 z ov2 hw2) 1015 [some (.ref b), some (.ref (ad 0)), some (.ref (ad 6)), some (.ref (ad 18)), some (.int (nI k)), l5, l6] []) : x_X p l e room_1 s m #[Value.ref b] below meth c D A 7 (200 + k) (3000 + 6 * k) (lw_Z below #[Value.ref b] s) (wl kc ad S S th ov hw) 248 [some (.ref b), some (.ref (ad 0)), some (.ref (ad 6)), some (.ref (ad 18)), some (.int (nI k)), l5, l6] [] := by
  refine x_aload1 M dL_law_248 ?_
  refine x_aload0 M dL_law_249 ?_
  refine x_iload4 M dL_law_250 ?_
  refine x_iconst (v := nI 1) M dL_law_252 (by decide +kernel) ?_
  refine n_add M dL_law_253 ?_
  refine x_sld M hX hbl hbA ha1 (by omega) hL dL_law_254 ?_
  refine x_aload3 M dL_law_255 ?_
  refine x_callW M TB hAA mv_L_hang kw_249 dL_law_256 hH rfl hR ⟨by show 200 + k + rm.cells ≤ 601024; omega, by show 3000 + 6 * k + rm.slots ≤ 7293034; omega⟩ (Nat.le_of_ble_eq_true rfl) ?_
  refine x_widen (k := 200 + (k + 3)) (n := 3000 + 6 * (k + 3)) (by omega) (by omega) ?_
  refine x_istore5 M dL_law_259 ?_
  refine x_aload2 M dL_law_261 ?_
  refine x_aload0 M dL_law_262 ?_
  refine x_iload4 M dL_law_263 ?_
  refine x_iconst (v := nI 1) M dL_law_265 (by decide +kernel) ?_
  refine n_add M dL_law_266 ?_
  refine x_sld M hX hbl hbA ha1 (by omega) hL dL_law_267 ?_
  refine x_callV0 M TB hAA mv_X3_hang kw_487 dL_law_268 hM rfl wl_M rfl rfl ⟨by decide, by decide⟩ ⟨⟨rfl, rfl⟩, (by show 200 + (k + 3) ≤ 601024; omega), (by show 3000 + 6 * (k + 3) ≤ 7293034; omega)⟩ (Nat.le_of_ble_eq_true rfl) ?_
  refine x_istore6 M dL_law_271 ?_
  refine x_aload2 M dL_law_273 ?_
  refine x_callV0 M TB hAA mv_X3_thrown kw_461 dL_law_274 m_thrown rfl wl_M rfl rfl ⟨by decide, by decide⟩ ⟨⟨rfl, rfl⟩, (by show 200 + (k + 3) ≤ 601024; omega), (by show 3000 + 6 * (k + 3) ≤ 7293034; omega)⟩ (Nat.le_of_ble_eq_true rfl) ?_
  refine x_iload5 M dL_law_277 ?_
  refine n_icmp_eq (tgt := 284) M (by first | omega | exact hB _ _) (by first | omega | exact hB _ _) dL_law_279 (by decide) (fun q279 => ?_) (fun q279 => absurd rfl q279)
  refine x_iload5 M dL_law_284 ?_
  refine n_if_ne (tgt := 301) M (by first | omega | exact hB _ _) dL_law_286 (by decide) (fun q286 => ?_) (fun q286 => ?_)
  · refine x_goto (tgt := 1015) M dL_law_301 (by decide) ?_
    exact kk _ _
  · refine x_aload3 M dL_law_289 ?_
    refine x_iconst (v := nI 0) M dL_law_290 (by decide +kernel) ?_
    refine aQ M TB dL_law_291 ?_
    refine x_iload6 M dL_law_292 ?_
    refine x_i2l M dL_law_294 ?_
    refine x_lcmp M dL_law_295 ?_
    rw [show lg_cmp ov2 r.toInt64 = 0 from by rw [hr q286, lcmp_0]]
    refine x_if_eq (tgt := 301) M dL_law_296 (by decide) (fun q296 => ?_) (fun q296 => absurd rfl q296)
    refine x_goto (tgt := 1015) M dL_law_301 (by decide) ?_
    exact kk _ _
set_option maxRecDepth 20000 in
set_option maxHeartbeats 2000000 in
theorem k_carry (M : CallFix p m c cL_law 7 s #[Value.ref b] gw RL) (TB : x_TB D kc A s s.heap) (hAA : ∀ q : Nat, s.heap.size ≤ q → A q) (hX : va_X b L xs s s.heap) (hbl : b < s.heap.size) (hbA : ¬ A b) (hL : L ≤ 1536) (hk : k + 3 ≤ L) {a1 a2 : Int32} (ha1 : xs (k + 1) = a1) (ha2 : xs (k + 2) = a2) {rm : Room} {z : Nat} {S2 : St} {ov2 : Int64} {hw2 : Nat} {Pr : Prop} [Decidable Pr] (hz : z < 2 ^ 31) (hR : rm.frames + 1 ≤ room_1.frames ∧ 8 + (5 + 11) + rm.locals ≤ room_1.locals) (hc : rm.cells ≤ 3 ∧ rm.slots ≤ 18)
    (hH : x_RetW l D kc A yL_carry cL_carry 5 (some FieldType.int) [(0, 17, 20, 13), (0, 17, 24, 24)] rm [.ref (ad 0), .int a1, .int a2, .ref (ad 18)] (wl kc ad S S th ov hw) (some (.int (nI z))) (wl kc ad S2 S th ov2 hw)) (hM : x_Ret l D kc A yX3_carry cX3_carry 4 (some FieldType.boolean) rm_X3_carry [.ref (ad 6), .int a1, .int a2] (wl kc ad S2 S th ov2 hw) (some (.int (if Pr then 1 else 0 : Int32))) (wl kc ad S2 S2 z ov2 hw2)) (hr : z = 0 → ov2 = (if Pr then 1 else 0 : Int64))
    (kk : ∀ l5 l6, x_X p l e room_1 s m #[Value.ref b] below meth c D A 7 (200 + (k + 3)) (3000 + 6 * (k + 3)) (lw_Z below #[Value.ref b] s) (wl kc ad S2 S2 z ov2 hw2) 1015 [some (.ref b), some (.ref (ad 0)), some (.ref (ad 6)), some (.ref (ad 18)), some (.int (nI k)), l5, l6] []) : x_X p l e room_1 s m #[Value.ref b] below meth c D A 7 (200 + k) (3000 + 6 * k) (lw_Z below #[Value.ref b] s) (wl kc ad S S th ov hw) 304 [some (.ref b), some (.ref (ad 0)), some (.ref (ad 6)), some (.ref (ad 18)), some (.int (nI k)), l5, l6] [] := by
  refine x_aload1 M dL_law_304 ?_
  refine x_aload0 M dL_law_305 ?_
  refine x_iload4 M dL_law_306 ?_
  refine x_iconst (v := nI 1) M dL_law_308 (by decide +kernel) ?_
  refine n_add M dL_law_309 ?_
  refine x_sld M hX hbl hbA ha1 (by omega) hL dL_law_310 ?_
  refine x_aload0 M dL_law_311 ?_
  refine x_iload4 M dL_law_312 ?_
  refine x_iconst (v := nI 2) M dL_law_314 (by decide +kernel) ?_
  refine n_add M dL_law_315 ?_
  refine x_sld M hX hbl hbA ha2 (by omega) hL dL_law_316 ?_
  refine x_aload3 M dL_law_317 ?_
  refine x_callW M TB hAA mv_L_carry kw_273 dL_law_318 hH rfl hR ⟨by show 200 + k + rm.cells ≤ 601024; omega, by show 3000 + 6 * k + rm.slots ≤ 7293034; omega⟩ (Nat.le_of_ble_eq_true rfl) ?_
  refine x_widen (k := 200 + (k + 3)) (n := 3000 + 6 * (k + 3)) (by omega) (by omega) ?_
  refine x_istore5 M dL_law_321 ?_
  refine x_aload2 M dL_law_323 ?_
  refine x_aload0 M dL_law_324 ?_
  refine x_iload4 M dL_law_325 ?_
  refine x_iconst (v := nI 1) M dL_law_327 (by decide +kernel) ?_
  refine n_add M dL_law_328 ?_
  refine x_sld M hX hbl hbA ha1 (by omega) hL dL_law_329 ?_
  refine x_aload0 M dL_law_330 ?_
  refine x_iload4 M dL_law_331 ?_
  refine x_iconst (v := nI 2) M dL_law_333 (by decide +kernel) ?_
  refine n_add M dL_law_334 ?_
  refine x_sld M hX hbl hbA ha2 (by omega) hL dL_law_335 ?_
  refine x_callV0 M TB hAA mv_X3_carry kw_491 dL_law_336 hM rfl wl_M rfl rfl ⟨by decide, by decide⟩ ⟨⟨rfl, rfl⟩, (by show 200 + (k + 3) ≤ 601024; omega), (by show 3000 + 6 * (k + 3) ≤ 7293034; omega)⟩ (Nat.le_of_ble_eq_true rfl) ?_
  refine x_istore6 M dL_law_339 ?_
  refine x_aload2 M dL_law_341 ?_
  refine x_callV0 M TB hAA mv_X3_thrown kw_461 dL_law_342 m_thrown rfl wl_M rfl rfl ⟨by decide, by decide⟩ ⟨⟨rfl, rfl⟩, (by show 200 + (k + 3) ≤ 601024; omega), (by show 3000 + 6 * (k + 3) ≤ 7293034; omega)⟩ (Nat.le_of_ble_eq_true rfl) ?_
  refine x_iload5 M dL_law_345 ?_
  refine n_icmp_eq (tgt := 352) M (by first | omega | exact hB _ _) (by first | omega | exact hB _ _) dL_law_347 (by decide) (fun q347 => ?_) (fun q347 => absurd rfl q347)
  refine x_iload5 M dL_law_352 ?_
  refine n_if_ne (tgt := 376) M (by first | omega | exact hB _ _) dL_law_354 (by decide) (fun q354 => ?_) (fun q354 => ?_)
  · refine x_goto (tgt := 1015) M dL_law_376 (by decide) ?_
    exact kk _ _
  · refine x_aload3 M dL_law_357 ?_
    refine x_iconst (v := nI 0) M dL_law_358 (by decide +kernel) ?_
    refine aQ M TB dL_law_359 ?_
    refine x_iload6 M dL_law_360 ?_
    refine b_if_eq (tgt := 369) M dL_law_362 (by decide) (fun q362 => ?_) (fun q362 => ?_)
    · refine x_lconst (v := 0) M dL_law_369 (by decide) ?_
      refine x_lcmp M dL_law_370 ?_
      first | rw [show lg_cmp ov2 1 = 0 from by rw [(hr q354).trans (if_pos (by assumption)), lcmp_0]] | rw [show lg_cmp ov2 0 = 0 from by rw [(hr q354).trans (if_neg (by assumption)), lcmp_0]]
      refine x_if_eq (tgt := 376) M dL_law_371 (by decide) (fun q371 => ?_) (fun q371 => absurd rfl q371)
      refine x_goto (tgt := 1015) M dL_law_376 (by decide) ?_
      exact kk _ _
    · refine x_lconst (v := 1) M dL_law_365 (by decide) ?_
      refine x_goto (tgt := 370) M dL_law_366 (by decide) ?_
      refine x_lcmp M dL_law_370 ?_
      first | rw [show lg_cmp ov2 1 = 0 from by rw [(hr q354).trans (if_pos (by assumption)), lcmp_0]] | rw [show lg_cmp ov2 0 = 0 from by rw [(hr q354).trans (if_neg (by assumption)), lcmp_0]]
      refine x_if_eq (tgt := 376) M dL_law_371 (by decide) (fun q371 => ?_) (fun q371 => absurd rfl q371)
      refine x_goto (tgt := 1015) M dL_law_376 (by decide) ?_
      exact kk _ _
set_option maxRecDepth 20000 in
set_option maxHeartbeats 2000000 in
theorem k_charge (M : CallFix p m c cL_law 7 s #[Value.ref b] gw RL) (TB : x_TB D kc A s s.heap) (hAA : ∀ q : Nat, s.heap.size ≤ q → A q) (hX : va_X b L xs s s.heap) (hbl : b < s.heap.size) (hbA : ¬ A b) (hL : L ≤ 1536) (hk : k + 3 ≤ L) {a1 : Int32} (ha1 : xs (k + 1) = a1) {rm : Room} {z : Nat} {S2 : St} {ov2 : Int64} {hw2 : Nat} {r : Int32} (hz : z < 2 ^ 31) (hR : rm.frames + 1 ≤ room_1.frames ∧ 8 + (4 + 11) + rm.locals ≤ room_1.locals) (hc : rm.cells ≤ 3 ∧ rm.slots ≤ 18)
    (hH : x_RetW l D kc A yL_charge cL_charge 4 (some FieldType.int) [(0, 9, 12, 13)] rm [.ref (ad 0), .int a1, .ref (ad 18)] (wl kc ad S S th ov hw) (some (.int (nI z))) (wl kc ad S2 S th ov2 hw)) (hM : x_Ret l D kc A yX3_charge cX3_charge 3 (some FieldType.int) rm_X3_charge [.ref (ad 6), .int a1] (wl kc ad S2 S th ov2 hw) (some (.int r)) (wl kc ad S2 S2 z ov2 hw2)) (hr : z = 0 → ov2 = r.toInt64)
    (kk : ∀ l5 l6, x_X p l e room_1 s m #[Value.ref b] below meth c D A 7 (200 + (k + 3)) (3000 + 6 * (k + 3)) (lw_Z below #[Value.ref b] s) (wl kc ad S2 S2 z ov2 hw2) 1015 [some (.ref b), some (.ref (ad 0)), some (.ref (ad 6)), some (.ref (ad 18)), some (.int (nI k)), l5, l6] []) : x_X p l e room_1 s m #[Value.ref b] below meth c D A 7 (200 + k) (3000 + 6 * k) (lw_Z below #[Value.ref b] s) (wl kc ad S S th ov hw) 379 [some (.ref b), some (.ref (ad 0)), some (.ref (ad 6)), some (.ref (ad 18)), some (.int (nI k)), l5, l6] [] := by
  refine x_aload1 M dL_law_379 ?_
  refine x_aload0 M dL_law_380 ?_
  refine x_iload4 M dL_law_381 ?_
  refine x_iconst (v := nI 1) M dL_law_383 (by decide +kernel) ?_
  refine n_add M dL_law_384 ?_
  refine x_sld M hX hbl hbA ha1 (by omega) hL dL_law_385 ?_
  refine x_aload3 M dL_law_386 ?_
  refine x_callW M TB hAA mv_L_charge kw_286 dL_law_387 hH rfl hR ⟨by show 200 + k + rm.cells ≤ 601024; omega, by show 3000 + 6 * k + rm.slots ≤ 7293034; omega⟩ (Nat.le_of_ble_eq_true rfl) ?_
  refine x_widen (k := 200 + (k + 3)) (n := 3000 + 6 * (k + 3)) (by omega) (by omega) ?_
  refine x_istore5 M dL_law_390 ?_
  refine x_aload2 M dL_law_392 ?_
  refine x_aload0 M dL_law_393 ?_
  refine x_iload4 M dL_law_394 ?_
  refine x_iconst (v := nI 1) M dL_law_396 (by decide +kernel) ?_
  refine n_add M dL_law_397 ?_
  refine x_sld M hX hbl hbA ha1 (by omega) hL dL_law_398 ?_
  refine x_callV0 M TB hAA mv_X3_charge kw_499 dL_law_399 hM rfl wl_M rfl rfl ⟨by decide, by decide⟩ ⟨⟨rfl, rfl⟩, (by show 200 + (k + 3) ≤ 601024; omega), (by show 3000 + 6 * (k + 3) ≤ 7293034; omega)⟩ (Nat.le_of_ble_eq_true rfl) ?_
  refine x_istore6 M dL_law_402 ?_
  refine x_aload2 M dL_law_404 ?_
  refine x_callV0 M TB hAA mv_X3_thrown kw_461 dL_law_405 m_thrown rfl wl_M rfl rfl ⟨by decide, by decide⟩ ⟨⟨rfl, rfl⟩, (by show 200 + (k + 3) ≤ 601024; omega), (by show 3000 + 6 * (k + 3) ≤ 7293034; omega)⟩ (Nat.le_of_ble_eq_true rfl) ?_
  refine x_iload5 M dL_law_408 ?_
  refine n_icmp_eq (tgt := 415) M (by first | omega | exact hB _ _) (by first | omega | exact hB _ _) dL_law_410 (by decide) (fun q410 => ?_) (fun q410 => absurd rfl q410)
  refine x_iload5 M dL_law_415 ?_
  refine n_if_ne (tgt := 432) M (by first | omega | exact hB _ _) dL_law_417 (by decide) (fun q417 => ?_) (fun q417 => ?_)
  · refine x_goto (tgt := 1015) M dL_law_432 (by decide) ?_
    exact kk _ _
  · refine x_aload3 M dL_law_420 ?_
    refine x_iconst (v := nI 0) M dL_law_421 (by decide +kernel) ?_
    refine aQ M TB dL_law_422 ?_
    refine x_iload6 M dL_law_423 ?_
    refine x_i2l M dL_law_425 ?_
    refine x_lcmp M dL_law_426 ?_
    rw [show lg_cmp ov2 r.toInt64 = 0 from by rw [hr q417, lcmp_0]]
    refine x_if_eq (tgt := 432) M dL_law_427 (by decide) (fun q427 => ?_) (fun q427 => absurd rfl q427)
    refine x_goto (tgt := 1015) M dL_law_432 (by decide) ?_
    exact kk _ _
set_option maxRecDepth 20000 in
set_option maxHeartbeats 2000000 in
theorem k_loseSendings (M : CallFix p m c cL_law 7 s #[Value.ref b] gw RL) (TB : x_TB D kc A s s.heap) (hAA : ∀ q : Nat, s.heap.size ≤ q → A q) (hX : va_X b L xs s s.heap) (hbl : b < s.heap.size) (hbA : ¬ A b) (hL : L ≤ 1536) (hk : k + 3 ≤ L) {a1 a2 : Int32} (ha1 : xs (k + 1) = a1) (ha2 : xs (k + 2) = a2) {rm : Room} {z : Nat} {S2 : St} {ov2 : Int64} {hw2 : Nat} {r : Int32} (hz : z < 2 ^ 31) (hR : rm.frames + 1 ≤ room_1.frames ∧ 8 + (5 + 11) + rm.locals ≤ room_1.locals) (hc : rm.cells ≤ 3 ∧ rm.slots ≤ 18)
    (hH : x_RetW l D kc A yL_loseSendings cL_loseSendings 5 (some FieldType.int) [(0, 10, 13, 13), (0, 10, 17, 15)] rm [.ref (ad 0), .int a1, .int a2, .ref (ad 18)] (wl kc ad S S th ov hw) (some (.int (nI z))) (wl kc ad S2 S th ov2 hw)) (hM : x_Ret l D kc A yX3_loseSendings cX3_loseSendings 4 (some FieldType.int) rm_X3_loseSendings [.ref (ad 6), .int a1, .int a2] (wl kc ad S2 S th ov2 hw) (some (.int r)) (wl kc ad S2 S2 z ov2 hw2)) (hr : z = 0 → ov2 = r.toInt64)
    (kk : ∀ l5 l6, x_X p l e room_1 s m #[Value.ref b] below meth c D A 7 (200 + (k + 3)) (3000 + 6 * (k + 3)) (lw_Z below #[Value.ref b] s) (wl kc ad S2 S2 z ov2 hw2) 1015 [some (.ref b), some (.ref (ad 0)), some (.ref (ad 6)), some (.ref (ad 18)), some (.int (nI k)), l5, l6] []) : x_X p l e room_1 s m #[Value.ref b] below meth c D A 7 (200 + k) (3000 + 6 * k) (lw_Z below #[Value.ref b] s) (wl kc ad S S th ov hw) 435 [some (.ref b), some (.ref (ad 0)), some (.ref (ad 6)), some (.ref (ad 18)), some (.int (nI k)), l5, l6] [] := by
  refine x_aload1 M dL_law_435 ?_
  refine x_aload0 M dL_law_436 ?_
  refine x_iload4 M dL_law_437 ?_
  refine x_iconst (v := nI 1) M dL_law_439 (by decide +kernel) ?_
  refine n_add M dL_law_440 ?_
  refine x_sld M hX hbl hbA ha1 (by omega) hL dL_law_441 ?_
  refine x_aload0 M dL_law_442 ?_
  refine x_iload4 M dL_law_443 ?_
  refine x_iconst (v := nI 2) M dL_law_445 (by decide +kernel) ?_
  refine n_add M dL_law_446 ?_
  refine x_sld M hX hbl hbA ha2 (by omega) hL dL_law_447 ?_
  refine x_aload3 M dL_law_448 ?_
  refine x_callW M TB hAA mv_L_loseSendings kw_293 dL_law_449 hH rfl hR ⟨by show 200 + k + rm.cells ≤ 601024; omega, by show 3000 + 6 * k + rm.slots ≤ 7293034; omega⟩ (Nat.le_of_ble_eq_true rfl) ?_
  refine x_widen (k := 200 + (k + 3)) (n := 3000 + 6 * (k + 3)) (by omega) (by omega) ?_
  refine x_istore5 M dL_law_452 ?_
  refine x_aload2 M dL_law_454 ?_
  refine x_aload0 M dL_law_455 ?_
  refine x_iload4 M dL_law_456 ?_
  refine x_iconst (v := nI 1) M dL_law_458 (by decide +kernel) ?_
  refine n_add M dL_law_459 ?_
  refine x_sld M hX hbl hbA ha1 (by omega) hL dL_law_460 ?_
  refine x_aload0 M dL_law_461 ?_
  refine x_iload4 M dL_law_462 ?_
  refine x_iconst (v := nI 2) M dL_law_464 (by decide +kernel) ?_
  refine n_add M dL_law_465 ?_
  refine x_sld M hX hbl hbA ha2 (by omega) hL dL_law_466 ?_
  refine x_callV0 M TB hAA mv_X3_loseSendings kw_503 dL_law_467 hM rfl wl_M rfl rfl ⟨by decide, by decide⟩ ⟨⟨rfl, rfl⟩, (by show 200 + (k + 3) ≤ 601024; omega), (by show 3000 + 6 * (k + 3) ≤ 7293034; omega)⟩ (Nat.le_of_ble_eq_true rfl) ?_
  refine x_istore6 M dL_law_470 ?_
  refine x_aload2 M dL_law_472 ?_
  refine x_callV0 M TB hAA mv_X3_thrown kw_461 dL_law_473 m_thrown rfl wl_M rfl rfl ⟨by decide, by decide⟩ ⟨⟨rfl, rfl⟩, (by show 200 + (k + 3) ≤ 601024; omega), (by show 3000 + 6 * (k + 3) ≤ 7293034; omega)⟩ (Nat.le_of_ble_eq_true rfl) ?_
  refine x_iload5 M dL_law_476 ?_
  refine n_icmp_eq (tgt := 483) M (by first | omega | exact hB _ _) (by first | omega | exact hB _ _) dL_law_478 (by decide) (fun q478 => ?_) (fun q478 => absurd rfl q478)
  refine x_iload5 M dL_law_483 ?_
  refine n_if_ne (tgt := 500) M (by first | omega | exact hB _ _) dL_law_485 (by decide) (fun q485 => ?_) (fun q485 => ?_)
  · refine x_goto (tgt := 1015) M dL_law_500 (by decide) ?_
    exact kk _ _
  · refine x_aload3 M dL_law_488 ?_
    refine x_iconst (v := nI 0) M dL_law_489 (by decide +kernel) ?_
    refine aQ M TB dL_law_490 ?_
    refine x_iload6 M dL_law_491 ?_
    refine x_i2l M dL_law_493 ?_
    refine x_lcmp M dL_law_494 ?_
    rw [show lg_cmp ov2 r.toInt64 = 0 from by rw [hr q485, lcmp_0]]
    refine x_if_eq (tgt := 500) M dL_law_495 (by decide) (fun q495 => ?_) (fun q495 => absurd rfl q495)
    refine x_goto (tgt := 1015) M dL_law_500 (by decide) ?_
    exact kk _ _
set_option maxRecDepth 20000 in
set_option maxHeartbeats 2000000 in
theorem k_loseAnswers (M : CallFix p m c cL_law 7 s #[Value.ref b] gw RL) (TB : x_TB D kc A s s.heap) (hAA : ∀ q : Nat, s.heap.size ≤ q → A q) (hX : va_X b L xs s s.heap) (hbl : b < s.heap.size) (hbA : ¬ A b) (hL : L ≤ 1536) (hk : k + 3 ≤ L) {a1 a2 : Int32} (ha1 : xs (k + 1) = a1) (ha2 : xs (k + 2) = a2) {rm : Room} {z : Nat} {S2 : St} {ov2 : Int64} {hw2 : Nat} {r : Int32} (hz : z < 2 ^ 31) (hR : rm.frames + 1 ≤ room_1.frames ∧ 8 + (5 + 11) + rm.locals ≤ room_1.locals) (hc : rm.cells ≤ 3 ∧ rm.slots ≤ 18)
    (hH : x_RetW l D kc A yL_loseAnswers cL_loseAnswers 5 (some FieldType.int) [(0, 10, 13, 13), (0, 10, 17, 15)] rm [.ref (ad 0), .int a1, .int a2, .ref (ad 18)] (wl kc ad S S th ov hw) (some (.int (nI z))) (wl kc ad S2 S th ov2 hw)) (hM : x_Ret l D kc A yX3_loseAnswers cX3_loseAnswers 4 (some FieldType.int) rm_X3_loseAnswers [.ref (ad 6), .int a1, .int a2] (wl kc ad S2 S th ov2 hw) (some (.int r)) (wl kc ad S2 S2 z ov2 hw2)) (hr : z = 0 → ov2 = r.toInt64)
    (kk : ∀ l5 l6, x_X p l e room_1 s m #[Value.ref b] below meth c D A 7 (200 + (k + 3)) (3000 + 6 * (k + 3)) (lw_Z below #[Value.ref b] s) (wl kc ad S2 S2 z ov2 hw2) 1015 [some (.ref b), some (.ref (ad 0)), some (.ref (ad 6)), some (.ref (ad 18)), some (.int (nI k)), l5, l6] []) : x_X p l e room_1 s m #[Value.ref b] below meth c D A 7 (200 + k) (3000 + 6 * k) (lw_Z below #[Value.ref b] s) (wl kc ad S S th ov hw) 503 [some (.ref b), some (.ref (ad 0)), some (.ref (ad 6)), some (.ref (ad 18)), some (.int (nI k)), l5, l6] [] := by
  refine x_aload1 M dL_law_503 ?_
  refine x_aload0 M dL_law_504 ?_
  refine x_iload4 M dL_law_505 ?_
  refine x_iconst (v := nI 1) M dL_law_507 (by decide +kernel) ?_
  refine n_add M dL_law_508 ?_
  refine x_sld M hX hbl hbA ha1 (by omega) hL dL_law_509 ?_
  refine x_aload0 M dL_law_510 ?_
  refine x_iload4 M dL_law_511 ?_
  refine x_iconst (v := nI 2) M dL_law_513 (by decide +kernel) ?_
  refine n_add M dL_law_514 ?_
  refine x_sld M hX hbl hbA ha2 (by omega) hL dL_law_515 ?_
  refine x_aload3 M dL_law_516 ?_
  refine x_callW M TB hAA mv_L_loseAnswers kw_300 dL_law_517 hH rfl hR ⟨by show 200 + k + rm.cells ≤ 601024; omega, by show 3000 + 6 * k + rm.slots ≤ 7293034; omega⟩ (Nat.le_of_ble_eq_true rfl) ?_
  refine x_widen (k := 200 + (k + 3)) (n := 3000 + 6 * (k + 3)) (by omega) (by omega) ?_
  refine x_istore5 M dL_law_520 ?_
  refine x_aload2 M dL_law_522 ?_
  refine x_aload0 M dL_law_523 ?_
  refine x_iload4 M dL_law_524 ?_
  refine x_iconst (v := nI 1) M dL_law_526 (by decide +kernel) ?_
  refine n_add M dL_law_527 ?_
  refine x_sld M hX hbl hbA ha1 (by omega) hL dL_law_528 ?_
  refine x_aload0 M dL_law_529 ?_
  refine x_iload4 M dL_law_530 ?_
  refine x_iconst (v := nI 2) M dL_law_532 (by decide +kernel) ?_
  refine n_add M dL_law_533 ?_
  refine x_sld M hX hbl hbA ha2 (by omega) hL dL_law_534 ?_
  refine x_callV0 M TB hAA mv_X3_loseAnswers kw_507 dL_law_535 hM rfl wl_M rfl rfl ⟨by decide, by decide⟩ ⟨⟨rfl, rfl⟩, (by show 200 + (k + 3) ≤ 601024; omega), (by show 3000 + 6 * (k + 3) ≤ 7293034; omega)⟩ (Nat.le_of_ble_eq_true rfl) ?_
  refine x_istore6 M dL_law_538 ?_
  refine x_aload2 M dL_law_540 ?_
  refine x_callV0 M TB hAA mv_X3_thrown kw_461 dL_law_541 m_thrown rfl wl_M rfl rfl ⟨by decide, by decide⟩ ⟨⟨rfl, rfl⟩, (by show 200 + (k + 3) ≤ 601024; omega), (by show 3000 + 6 * (k + 3) ≤ 7293034; omega)⟩ (Nat.le_of_ble_eq_true rfl) ?_
  refine x_iload5 M dL_law_544 ?_
  refine n_icmp_eq (tgt := 551) M (by first | omega | exact hB _ _) (by first | omega | exact hB _ _) dL_law_546 (by decide) (fun q546 => ?_) (fun q546 => absurd rfl q546)
  refine x_iload5 M dL_law_551 ?_
  refine n_if_ne (tgt := 568) M (by first | omega | exact hB _ _) dL_law_553 (by decide) (fun q553 => ?_) (fun q553 => ?_)
  · refine x_goto (tgt := 1015) M dL_law_568 (by decide) ?_
    exact kk _ _
  · refine x_aload3 M dL_law_556 ?_
    refine x_iconst (v := nI 0) M dL_law_557 (by decide +kernel) ?_
    refine aQ M TB dL_law_558 ?_
    refine x_iload6 M dL_law_559 ?_
    refine x_i2l M dL_law_561 ?_
    refine x_lcmp M dL_law_562 ?_
    rw [show lg_cmp ov2 r.toInt64 = 0 from by rw [hr q553, lcmp_0]]
    refine x_if_eq (tgt := 568) M dL_law_563 (by decide) (fun q563 => ?_) (fun q563 => absurd rfl q563)
    refine x_goto (tgt := 1015) M dL_law_568 (by decide) ?_
    exact kk _ _
set_option maxRecDepth 20000 in
set_option maxHeartbeats 2000000 in
theorem k_pass (M : CallFix p m c cL_law 7 s #[Value.ref b] gw RL) (TB : x_TB D kc A s s.heap) (hAA : ∀ q : Nat, s.heap.size ≤ q → A q) (hX : va_X b L xs s s.heap) (hbl : b < s.heap.size) (hbA : ¬ A b) (hL : L ≤ 1536) (hk : k + 3 ≤ L) {a1 : Int32} (ha1 : xs (k + 1) = a1) {rm : Room} {z : Nat} {S2 : St} {ov2 : Int64} {hw2 : Nat} {r : Int32} (hz : z < 2 ^ 31) (hR : rm.frames + 1 ≤ room_1.frames ∧ 8 + (4 + 11) + rm.locals ≤ room_1.locals) (hc : rm.cells ≤ 3 ∧ rm.slots ≤ 18)
    (hH : x_RetW l D kc A yL_pass cL_pass 4 (some FieldType.int) [(0, 9, 12, 15), (0, 9, 15, 24)] rm [.ref (ad 0), .int a1, .ref (ad 18)] (wl kc ad S S th ov hw) (some (.int (nI z))) (wl kc ad S2 S th ov2 hw)) (hM : x_Ret l D kc A yX3_pass cX3_pass 4 (some FieldType.int) rm_X3_pass [.ref (ad 6), .int a1] (wl kc ad S2 S th ov2 hw) (some (.int r)) (wl kc ad S2 S2 z ov2 hw2)) (hr : z = 0 → ov2 = r.toInt64)
    (kk : ∀ l5 l6, x_X p l e room_1 s m #[Value.ref b] below meth c D A 7 (200 + (k + 3)) (3000 + 6 * (k + 3)) (lw_Z below #[Value.ref b] s) (wl kc ad S2 S2 z ov2 hw2) 1015 [some (.ref b), some (.ref (ad 0)), some (.ref (ad 6)), some (.ref (ad 18)), some (.int (nI k)), l5, l6] []) : x_X p l e room_1 s m #[Value.ref b] below meth c D A 7 (200 + k) (3000 + 6 * k) (lw_Z below #[Value.ref b] s) (wl kc ad S S th ov hw) 571 [some (.ref b), some (.ref (ad 0)), some (.ref (ad 6)), some (.ref (ad 18)), some (.int (nI k)), l5, l6] [] := by
  refine x_aload1 M dL_law_571 ?_
  refine x_aload0 M dL_law_572 ?_
  refine x_iload4 M dL_law_573 ?_
  refine x_iconst (v := nI 1) M dL_law_575 (by decide +kernel) ?_
  refine n_add M dL_law_576 ?_
  refine x_sld M hX hbl hbA ha1 (by omega) hL dL_law_577 ?_
  refine x_aload3 M dL_law_578 ?_
  refine x_callW M TB hAA mv_L_pass kw_307 dL_law_579 hH rfl hR ⟨by show 200 + k + rm.cells ≤ 601024; omega, by show 3000 + 6 * k + rm.slots ≤ 7293034; omega⟩ (Nat.le_of_ble_eq_true rfl) ?_
  refine x_widen (k := 200 + (k + 3)) (n := 3000 + 6 * (k + 3)) (by omega) (by omega) ?_
  refine x_istore5 M dL_law_582 ?_
  refine x_aload2 M dL_law_584 ?_
  refine x_aload0 M dL_law_585 ?_
  refine x_iload4 M dL_law_586 ?_
  refine x_iconst (v := nI 1) M dL_law_588 (by decide +kernel) ?_
  refine n_add M dL_law_589 ?_
  refine x_sld M hX hbl hbA ha1 (by omega) hL dL_law_590 ?_
  refine x_callV0 M TB hAA mv_X3_pass kw_511 dL_law_591 hM rfl wl_M rfl rfl ⟨by decide, by decide⟩ ⟨⟨rfl, rfl⟩, (by show 200 + (k + 3) ≤ 601024; omega), (by show 3000 + 6 * (k + 3) ≤ 7293034; omega)⟩ (Nat.le_of_ble_eq_true rfl) ?_
  refine x_istore6 M dL_law_594 ?_
  refine x_aload2 M dL_law_596 ?_
  refine x_callV0 M TB hAA mv_X3_thrown kw_461 dL_law_597 m_thrown rfl wl_M rfl rfl ⟨by decide, by decide⟩ ⟨⟨rfl, rfl⟩, (by show 200 + (k + 3) ≤ 601024; omega), (by show 3000 + 6 * (k + 3) ≤ 7293034; omega)⟩ (Nat.le_of_ble_eq_true rfl) ?_
  refine x_iload5 M dL_law_600 ?_
  refine n_icmp_eq (tgt := 607) M (by first | omega | exact hB _ _) (by first | omega | exact hB _ _) dL_law_602 (by decide) (fun q602 => ?_) (fun q602 => absurd rfl q602)
  refine x_iload5 M dL_law_607 ?_
  refine n_if_ne (tgt := 624) M (by first | omega | exact hB _ _) dL_law_609 (by decide) (fun q609 => ?_) (fun q609 => ?_)
  · refine x_goto (tgt := 1015) M dL_law_624 (by decide) ?_
    exact kk _ _
  · refine x_aload3 M dL_law_612 ?_
    refine x_iconst (v := nI 0) M dL_law_613 (by decide +kernel) ?_
    refine aQ M TB dL_law_614 ?_
    refine x_iload6 M dL_law_615 ?_
    refine x_i2l M dL_law_617 ?_
    refine x_lcmp M dL_law_618 ?_
    rw [show lg_cmp ov2 r.toInt64 = 0 from by rw [hr q609, lcmp_0]]
    refine x_if_eq (tgt := 624) M dL_law_619 (by decide) (fun q619 => ?_) (fun q619 => absurd rfl q619)
    refine x_goto (tgt := 1015) M dL_law_624 (by decide) ?_
    exact kk _ _
set_option maxRecDepth 20000 in
set_option maxHeartbeats 2000000 in
theorem k_time (M : CallFix p m c cL_law 7 s #[Value.ref b] gw RL) (TB : x_TB D kc A s s.heap) (hAA : ∀ q : Nat, s.heap.size ≤ q → A q) (hX : va_X b L xs s s.heap) (hbl : b < s.heap.size) (hbA : ¬ A b) (hL : L ≤ 1536) (hk : k + 3 ≤ L) (hO : Ok S)
    (kk : ∀ l5 l6, x_X p l e room_1 s m #[Value.ref b] below meth c D A 7 (200 + (k + 3)) (3000 + 6 * (k + 3)) (lw_Z below #[Value.ref b] s) (wl kc ad S S 0 ov hw) 1015 [some (.ref b), some (.ref (ad 0)), some (.ref (ad 6)), some (.ref (ad 18)), some (.int (nI k)), l5, l6] []) : x_X p l e room_1 s m #[Value.ref b] below meth c D A 7 (200 + k) (3000 + 6 * k) (lw_Z below #[Value.ref b] s) (wl kc ad S S th ov hw) 627 [some (.ref b), some (.ref (ad 0)), some (.ref (ad 6)), some (.ref (ad 18)), some (.int (nI k)), l5, l6] [] := by
  refine x_aload1 M dL_law_627 ?_
  refine x_callV0 M TB hAA mv_X2_time kw_115 dL_law_628 c_time rfl wl_X rfl rfl ⟨by decide, by decide⟩ ⟨⟨rfl, rfl⟩, (by show 200 + k ≤ 601024; omega), (by show 3000 + 6 * k ≤ 7293034; omega)⟩ (Nat.le_of_ble_eq_true rfl) ?_
  refine x_aload2 M dL_law_631 ?_
  refine x_callV0 M TB hAA mv_X3_time kw_541 dL_law_632 m_time rfl wl_M rfl rfl ⟨by decide, by decide⟩ ⟨⟨rfl, rfl⟩, (by show 200 + k ≤ 601024; omega), (by show 3000 + 6 * k ≤ 7293034; omega)⟩ (Nat.le_of_ble_eq_true rfl) ?_
  refine x_icmp_eq (tgt := 1015) M dL_law_635 (by decide) (fun q635 => ?_) (fun q635 => absurd rfl q635)
  exact x_widen (by omega) (by omega) (kk _ _)
set_option maxRecDepth 20000 in
set_option maxHeartbeats 2000000 in
theorem k_order (M : CallFix p m c cL_law 7 s #[Value.ref b] gw RL) (TB : x_TB D kc A s s.heap) (hAA : ∀ q : Nat, s.heap.size ≤ q → A q) (hX : va_X b L xs s s.heap) (hbl : b < s.heap.size) (hbA : ¬ A b) (hL : L ≤ 1536) (hk : k + 3 ≤ L) {a1 : Int32} (ha1 : xs (k + 1) = a1) {rm : Room} {z : Nat} {S2 : St} {ov2 : Int64} {hw2 : Nat} {r : Int32} (hz : z < 2 ^ 31) (hR : rm.frames + 1 ≤ room_1.frames ∧ 8 + (4 + 11) + rm.locals ≤ room_1.locals) (hc : rm.cells ≤ 3 ∧ rm.slots ≤ 18)
    (hH : x_RetW l D kc A yL_order cL_order 4 (some FieldType.int) [(0, 9, 12, 13)] rm [.ref (ad 0), .int a1, .ref (ad 18)] (wl kc ad S S th ov hw) (some (.int (nI z))) (wl kc ad S2 S th ov2 hw)) (hM : x_Ret l D kc A yX3_order cX3_order 2 (some FieldType.int) rm_X3_order [.ref (ad 6), .int a1] (wl kc ad S2 S th ov2 hw) (some (.int r)) (wl kc ad S2 S2 z ov2 hw2)) (hr : z = 0 → ov2 = r.toInt64)
    (kk : ∀ l5 l6, x_X p l e room_1 s m #[Value.ref b] below meth c D A 7 (200 + (k + 3)) (3000 + 6 * (k + 3)) (lw_Z below #[Value.ref b] s) (wl kc ad S2 S2 z ov2 hw2) 1015 [some (.ref b), some (.ref (ad 0)), some (.ref (ad 6)), some (.ref (ad 18)), some (.int (nI k)), l5, l6] []) : x_X p l e room_1 s m #[Value.ref b] below meth c D A 7 (200 + k) (3000 + 6 * k) (lw_Z below #[Value.ref b] s) (wl kc ad S S th ov hw) 640 [some (.ref b), some (.ref (ad 0)), some (.ref (ad 6)), some (.ref (ad 18)), some (.int (nI k)), l5, l6] [] := by
  refine x_aload1 M dL_law_640 ?_
  refine x_aload0 M dL_law_641 ?_
  refine x_iload4 M dL_law_642 ?_
  refine x_iconst (v := nI 1) M dL_law_644 (by decide +kernel) ?_
  refine n_add M dL_law_645 ?_
  refine x_sld M hX hbl hbA ha1 (by omega) hL dL_law_646 ?_
  refine x_aload3 M dL_law_647 ?_
  refine x_callW M TB hAA mv_L_order kw_354 dL_law_648 hH rfl hR ⟨by show 200 + k + rm.cells ≤ 601024; omega, by show 3000 + 6 * k + rm.slots ≤ 7293034; omega⟩ (Nat.le_of_ble_eq_true rfl) ?_
  refine x_widen (k := 200 + (k + 3)) (n := 3000 + 6 * (k + 3)) (by omega) (by omega) ?_
  refine x_istore5 M dL_law_651 ?_
  refine x_aload2 M dL_law_653 ?_
  refine x_aload0 M dL_law_654 ?_
  refine x_iload4 M dL_law_655 ?_
  refine x_iconst (v := nI 1) M dL_law_657 (by decide +kernel) ?_
  refine n_add M dL_law_658 ?_
  refine x_sld M hX hbl hbA ha1 (by omega) hL dL_law_659 ?_
  refine x_callV0 M TB hAA mv_X3_order kw_545 dL_law_660 hM rfl wl_M rfl rfl ⟨by decide, by decide⟩ ⟨⟨rfl, rfl⟩, (by show 200 + (k + 3) ≤ 601024; omega), (by show 3000 + 6 * (k + 3) ≤ 7293034; omega)⟩ (Nat.le_of_ble_eq_true rfl) ?_
  refine x_istore6 M dL_law_663 ?_
  refine x_aload2 M dL_law_665 ?_
  refine x_callV0 M TB hAA mv_X3_thrown kw_461 dL_law_666 m_thrown rfl wl_M rfl rfl ⟨by decide, by decide⟩ ⟨⟨rfl, rfl⟩, (by show 200 + (k + 3) ≤ 601024; omega), (by show 3000 + 6 * (k + 3) ≤ 7293034; omega)⟩ (Nat.le_of_ble_eq_true rfl) ?_
  refine x_iload5 M dL_law_669 ?_
  refine n_icmp_eq (tgt := 676) M (by first | omega | exact hB _ _) (by first | omega | exact hB _ _) dL_law_671 (by decide) (fun q671 => ?_) (fun q671 => absurd rfl q671)
  refine x_iload5 M dL_law_676 ?_
  refine n_if_ne (tgt := 693) M (by first | omega | exact hB _ _) dL_law_678 (by decide) (fun q678 => ?_) (fun q678 => ?_)
  · refine x_goto (tgt := 1015) M dL_law_693 (by decide) ?_
    exact kk _ _
  · refine x_aload3 M dL_law_681 ?_
    refine x_iconst (v := nI 0) M dL_law_682 (by decide +kernel) ?_
    refine aQ M TB dL_law_683 ?_
    refine x_iload6 M dL_law_684 ?_
    refine x_i2l M dL_law_686 ?_
    refine x_lcmp M dL_law_687 ?_
    rw [show lg_cmp ov2 r.toInt64 = 0 from by rw [hr q678, lcmp_0]]
    refine x_if_eq (tgt := 693) M dL_law_688 (by decide) (fun q688 => ?_) (fun q688 => absurd rfl q688)
    refine x_goto (tgt := 1015) M dL_law_693 (by decide) ?_
    exact kk _ _
set_option maxRecDepth 20000 in
set_option maxHeartbeats 2000000 in
theorem k_orders (M : CallFix p m c cL_law 7 s #[Value.ref b] gw RL) (TB : x_TB D kc A s s.heap) (hAA : ∀ q : Nat, s.heap.size ≤ q → A q) (hX : va_X b L xs s s.heap) (hbl : b < s.heap.size) (hbA : ¬ A b) (hL : L ≤ 1536) (hk : k + 3 ≤ L) (hO : Ok S)
    (kk : ∀ l5 l6, x_X p l e room_1 s m #[Value.ref b] below meth c D A 7 (200 + (k + 3)) (3000 + 6 * (k + 3)) (lw_Z below #[Value.ref b] s) (wl kc ad S S 0 ov hw) 1015 [some (.ref b), some (.ref (ad 0)), some (.ref (ad 6)), some (.ref (ad 18)), some (.int (nI k)), l5, l6] []) : x_X p l e room_1 s m #[Value.ref b] below meth c D A 7 (200 + k) (3000 + 6 * k) (lw_Z below #[Value.ref b] s) (wl kc ad S S th ov hw) 696 [some (.ref b), some (.ref (ad 0)), some (.ref (ad 6)), some (.ref (ad 18)), some (.int (nI k)), l5, l6] [] := by
  refine x_aload1 M dL_law_696 ?_
  refine x_callV0 M TB hAA mv_X2_orders kw_119 dL_law_697 (c_orders hO) rfl wl_X rfl rfl ⟨by decide, by decide⟩ ⟨⟨rfl, rfl⟩, (by show 200 + k ≤ 601024; omega), (by show 3000 + 6 * k ≤ 7293034; omega)⟩ (Nat.le_of_ble_eq_true rfl) ?_
  refine x_aload2 M dL_law_700 ?_
  refine x_callV0 M TB hAA mv_X3_orders kw_549 dL_law_701 (m_orders hO) rfl wl_M rfl rfl ⟨by decide, by decide⟩ ⟨⟨rfl, rfl⟩, (by show 200 + k ≤ 601024; omega), (by show 3000 + 6 * k ≤ 7293034; omega)⟩ (Nat.le_of_ble_eq_true rfl) ?_
  refine x_icmp_eq (tgt := 1015) M dL_law_704 (by decide) (fun q704 => ?_) (fun q704 => absurd rfl q704)
  exact x_widen (by omega) (by omega) (kk _ _)
set_option maxRecDepth 20000 in
set_option maxHeartbeats 2000000 in
theorem k_nextToSend (M : CallFix p m c cL_law 7 s #[Value.ref b] gw RL) (TB : x_TB D kc A s s.heap) (hAA : ∀ q : Nat, s.heap.size ≤ q → A q) (hX : va_X b L xs s s.heap) (hbl : b < s.heap.size) (hbA : ¬ A b) (hL : L ≤ 1536) (hk : k + 3 ≤ L) (hO : Ok S)
    (kk : ∀ l5 l6, x_X p l e room_1 s m #[Value.ref b] below meth c D A 7 (200 + (k + 3)) (3000 + 6 * (k + 3)) (lw_Z below #[Value.ref b] s) (wl kc ad S S 0 ov hw) 1015 [some (.ref b), some (.ref (ad 0)), some (.ref (ad 6)), some (.ref (ad 18)), some (.int (nI k)), l5, l6] []) : x_X p l e room_1 s m #[Value.ref b] below meth c D A 7 (200 + k) (3000 + 6 * k) (lw_Z below #[Value.ref b] s) (wl kc ad S S th ov hw) 709 [some (.ref b), some (.ref (ad 0)), some (.ref (ad 6)), some (.ref (ad 18)), some (.int (nI k)), l5, l6] [] := by
  refine x_aload1 M dL_law_709 ?_
  refine x_callV0 M TB hAA mv_X2_nextToSend kw_123 dL_law_710 (c_nextToSend hO.bd hO.n) rfl wl_X rfl rfl ⟨by decide, by decide⟩ ⟨⟨rfl, rfl⟩, (by show 200 + k ≤ 601024; omega), (by show 3000 + 6 * k ≤ 7293034; omega)⟩ (Nat.le_of_ble_eq_true rfl) ?_
  refine x_aload2 M dL_law_713 ?_
  refine x_callV0 M TB hAA mv_X3_nextToSend kw_553 dL_law_714 (m_nextToSend hO) rfl wl_M rfl rfl ⟨by decide, by decide⟩ ⟨⟨rfl, rfl⟩, (by show 200 + k ≤ 601024; omega), (by show 3000 + 6 * k ≤ 7293034; omega)⟩ (Nat.le_of_ble_eq_true rfl) ?_
  refine x_icmp_eq (tgt := 1015) M dL_law_717 (by decide) (fun q717 => ?_) (fun q717 => absurd rfl q717)
  exact x_widen (by omega) (by omega) (kk _ _)
set_option maxRecDepth 20000 in
set_option maxHeartbeats 2000000 in
theorem k_shown (M : CallFix p m c cL_law 7 s #[Value.ref b] gw RL) (TB : x_TB D kc A s s.heap) (hAA : ∀ q : Nat, s.heap.size ≤ q → A q) (hX : va_X b L xs s s.heap) (hbl : b < s.heap.size) (hbA : ¬ A b) (hL : L ≤ 1536) (hk : k + 3 ≤ L) {a1 : Int32} (ha1 : xs (k + 1) = a1) {rm : Room} {z : Nat} {S2 : St} {ov2 : Int64} {hw2 : Nat} {r : Int32} (hz : z < 2 ^ 31) (hR : rm.frames + 1 ≤ room_1.frames ∧ 8 + (4 + 11) + rm.locals ≤ room_1.locals) (hc : rm.cells ≤ 3 ∧ rm.slots ≤ 18)
    (hH : x_RetW l D kc A yL_shown cL_shown 4 (some FieldType.int) [(0, 9, 12, 13)] rm [.ref (ad 0), .int a1, .ref (ad 18)] (wl kc ad S S th ov hw) (some (.int (nI z))) (wl kc ad S2 S th ov2 hw)) (hM : x_Ret l D kc A yX3_shown cX3_shown 2 (some FieldType.int) rm_X3_shown [.ref (ad 6), .int a1] (wl kc ad S2 S th ov2 hw) (some (.int r)) (wl kc ad S2 S2 z ov2 hw2)) (hr : z = 0 → ov2 = r.toInt64)
    (kk : ∀ l5 l6, x_X p l e room_1 s m #[Value.ref b] below meth c D A 7 (200 + (k + 3)) (3000 + 6 * (k + 3)) (lw_Z below #[Value.ref b] s) (wl kc ad S2 S2 z ov2 hw2) 1015 [some (.ref b), some (.ref (ad 0)), some (.ref (ad 6)), some (.ref (ad 18)), some (.int (nI k)), l5, l6] []) : x_X p l e room_1 s m #[Value.ref b] below meth c D A 7 (200 + k) (3000 + 6 * k) (lw_Z below #[Value.ref b] s) (wl kc ad S S th ov hw) 722 [some (.ref b), some (.ref (ad 0)), some (.ref (ad 6)), some (.ref (ad 18)), some (.int (nI k)), l5, l6] [] := by
  refine x_aload1 M dL_law_722 ?_
  refine x_aload0 M dL_law_723 ?_
  refine x_iload4 M dL_law_724 ?_
  refine x_iconst (v := nI 1) M dL_law_726 (by decide +kernel) ?_
  refine n_add M dL_law_727 ?_
  refine x_sld M hX hbl hbA ha1 (by omega) hL dL_law_728 ?_
  refine x_aload3 M dL_law_729 ?_
  refine x_callW M TB hAA mv_L_shown kw_361 dL_law_730 hH rfl hR ⟨by show 200 + k + rm.cells ≤ 601024; omega, by show 3000 + 6 * k + rm.slots ≤ 7293034; omega⟩ (Nat.le_of_ble_eq_true rfl) ?_
  refine x_widen (k := 200 + (k + 3)) (n := 3000 + 6 * (k + 3)) (by omega) (by omega) ?_
  refine x_istore5 M dL_law_733 ?_
  refine x_aload2 M dL_law_735 ?_
  refine x_aload0 M dL_law_736 ?_
  refine x_iload4 M dL_law_737 ?_
  refine x_iconst (v := nI 1) M dL_law_739 (by decide +kernel) ?_
  refine n_add M dL_law_740 ?_
  refine x_sld M hX hbl hbA ha1 (by omega) hL dL_law_741 ?_
  refine x_callV0 M TB hAA mv_X3_shown kw_557 dL_law_742 hM rfl wl_M rfl rfl ⟨by decide, by decide⟩ ⟨⟨rfl, rfl⟩, (by show 200 + (k + 3) ≤ 601024; omega), (by show 3000 + 6 * (k + 3) ≤ 7293034; omega)⟩ (Nat.le_of_ble_eq_true rfl) ?_
  refine x_istore6 M dL_law_745 ?_
  refine x_aload2 M dL_law_747 ?_
  refine x_callV0 M TB hAA mv_X3_thrown kw_461 dL_law_748 m_thrown rfl wl_M rfl rfl ⟨by decide, by decide⟩ ⟨⟨rfl, rfl⟩, (by show 200 + (k + 3) ≤ 601024; omega), (by show 3000 + 6 * (k + 3) ≤ 7293034; omega)⟩ (Nat.le_of_ble_eq_true rfl) ?_
  refine x_iload5 M dL_law_751 ?_
  refine n_icmp_eq (tgt := 758) M (by first | omega | exact hB _ _) (by first | omega | exact hB _ _) dL_law_753 (by decide) (fun q753 => ?_) (fun q753 => absurd rfl q753)
  refine x_iload5 M dL_law_758 ?_
  refine n_if_ne (tgt := 775) M (by first | omega | exact hB _ _) dL_law_760 (by decide) (fun q760 => ?_) (fun q760 => ?_)
  · refine x_goto (tgt := 1015) M dL_law_775 (by decide) ?_
    exact kk _ _
  · refine x_aload3 M dL_law_763 ?_
    refine x_iconst (v := nI 0) M dL_law_764 (by decide +kernel) ?_
    refine aQ M TB dL_law_765 ?_
    refine x_iload6 M dL_law_766 ?_
    refine x_i2l M dL_law_768 ?_
    refine x_lcmp M dL_law_769 ?_
    rw [show lg_cmp ov2 r.toInt64 = 0 from by rw [hr q760, lcmp_0]]
    refine x_if_eq (tgt := 775) M dL_law_770 (by decide) (fun q770 => ?_) (fun q770 => absurd rfl q770)
    refine x_goto (tgt := 1015) M dL_law_775 (by decide) ?_
    exact kk _ _
set_option maxRecDepth 20000 in
set_option maxHeartbeats 2000000 in
theorem k_ghosts (M : CallFix p m c cL_law 7 s #[Value.ref b] gw RL) (TB : x_TB D kc A s s.heap) (hAA : ∀ q : Nat, s.heap.size ≤ q → A q) (hX : va_X b L xs s s.heap) (hbl : b < s.heap.size) (hbA : ¬ A b) (hL : L ≤ 1536) (hk : k + 3 ≤ L) {a1 : Int32} (ha1 : xs (k + 1) = a1) {rm : Room} {z : Nat} {S2 : St} {ov2 : Int64} {hw2 : Nat} {r : Int32} (hz : z < 2 ^ 31) (hR : rm.frames + 1 ≤ room_1.frames ∧ 8 + (4 + 11) + rm.locals ≤ room_1.locals) (hc : rm.cells ≤ 3 ∧ rm.slots ≤ 18)
    (hH : x_RetW l D kc A yL_ghosts cL_ghosts 4 (some FieldType.int) [(0, 9, 12, 13)] rm [.ref (ad 0), .int a1, .ref (ad 18)] (wl kc ad S S th ov hw) (some (.int (nI z))) (wl kc ad S2 S th ov2 hw)) (hM : x_Ret l D kc A yX3_ghosts cX3_ghosts 2 (some FieldType.int) rm_X3_ghosts [.ref (ad 6), .int a1] (wl kc ad S2 S th ov2 hw) (some (.int r)) (wl kc ad S2 S2 z ov2 hw2)) (hr : z = 0 → ov2 = r.toInt64)
    (kk : ∀ l5 l6, x_X p l e room_1 s m #[Value.ref b] below meth c D A 7 (200 + (k + 3)) (3000 + 6 * (k + 3)) (lw_Z below #[Value.ref b] s) (wl kc ad S2 S2 z ov2 hw2) 1015 [some (.ref b), some (.ref (ad 0)), some (.ref (ad 6)), some (.ref (ad 18)), some (.int (nI k)), l5, l6] []) : x_X p l e room_1 s m #[Value.ref b] below meth c D A 7 (200 + k) (3000 + 6 * k) (lw_Z below #[Value.ref b] s) (wl kc ad S S th ov hw) 778 [some (.ref b), some (.ref (ad 0)), some (.ref (ad 6)), some (.ref (ad 18)), some (.int (nI k)), l5, l6] [] := by
  refine x_aload1 M dL_law_778 ?_
  refine x_aload0 M dL_law_779 ?_
  refine x_iload4 M dL_law_780 ?_
  refine x_iconst (v := nI 1) M dL_law_782 (by decide +kernel) ?_
  refine n_add M dL_law_783 ?_
  refine x_sld M hX hbl hbA ha1 (by omega) hL dL_law_784 ?_
  refine x_aload3 M dL_law_785 ?_
  refine x_callW M TB hAA mv_L_ghosts kw_368 dL_law_786 hH rfl hR ⟨by show 200 + k + rm.cells ≤ 601024; omega, by show 3000 + 6 * k + rm.slots ≤ 7293034; omega⟩ (Nat.le_of_ble_eq_true rfl) ?_
  refine x_widen (k := 200 + (k + 3)) (n := 3000 + 6 * (k + 3)) (by omega) (by omega) ?_
  refine x_istore5 M dL_law_789 ?_
  refine x_aload2 M dL_law_791 ?_
  refine x_aload0 M dL_law_792 ?_
  refine x_iload4 M dL_law_793 ?_
  refine x_iconst (v := nI 1) M dL_law_795 (by decide +kernel) ?_
  refine n_add M dL_law_796 ?_
  refine x_sld M hX hbl hbA ha1 (by omega) hL dL_law_797 ?_
  refine x_callV0 M TB hAA mv_X3_ghosts kw_561 dL_law_798 hM rfl wl_M rfl rfl ⟨by decide, by decide⟩ ⟨⟨rfl, rfl⟩, (by show 200 + (k + 3) ≤ 601024; omega), (by show 3000 + 6 * (k + 3) ≤ 7293034; omega)⟩ (Nat.le_of_ble_eq_true rfl) ?_
  refine x_istore6 M dL_law_801 ?_
  refine x_aload2 M dL_law_803 ?_
  refine x_callV0 M TB hAA mv_X3_thrown kw_461 dL_law_804 m_thrown rfl wl_M rfl rfl ⟨by decide, by decide⟩ ⟨⟨rfl, rfl⟩, (by show 200 + (k + 3) ≤ 601024; omega), (by show 3000 + 6 * (k + 3) ≤ 7293034; omega)⟩ (Nat.le_of_ble_eq_true rfl) ?_
  refine x_iload5 M dL_law_807 ?_
  refine n_icmp_eq (tgt := 814) M (by first | omega | exact hB _ _) (by first | omega | exact hB _ _) dL_law_809 (by decide) (fun q809 => ?_) (fun q809 => absurd rfl q809)
  refine x_iload5 M dL_law_814 ?_
  refine n_if_ne (tgt := 831) M (by first | omega | exact hB _ _) dL_law_816 (by decide) (fun q816 => ?_) (fun q816 => ?_)
  · refine x_goto (tgt := 1015) M dL_law_831 (by decide) ?_
    exact kk _ _
  · refine x_aload3 M dL_law_819 ?_
    refine x_iconst (v := nI 0) M dL_law_820 (by decide +kernel) ?_
    refine aQ M TB dL_law_821 ?_
    refine x_iload6 M dL_law_822 ?_
    refine x_i2l M dL_law_824 ?_
    refine x_lcmp M dL_law_825 ?_
    rw [show lg_cmp ov2 r.toInt64 = 0 from by rw [hr q816, lcmp_0]]
    refine x_if_eq (tgt := 831) M dL_law_826 (by decide) (fun q826 => ?_) (fun q826 => absurd rfl q826)
    refine x_goto (tgt := 1015) M dL_law_831 (by decide) ?_
    exact kk _ _
set_option maxRecDepth 20000 in
set_option maxHeartbeats 2000000 in
theorem k_battery (M : CallFix p m c cL_law 7 s #[Value.ref b] gw RL) (TB : x_TB D kc A s s.heap) (hAA : ∀ q : Nat, s.heap.size ≤ q → A q) (hX : va_X b L xs s s.heap) (hbl : b < s.heap.size) (hbA : ¬ A b) (hL : L ≤ 1536) (hk : k + 3 ≤ L) {a1 : Int32} (ha1 : xs (k + 1) = a1) {rm : Room} {z : Nat} {S2 : St} {ov2 : Int64} {hw2 : Nat} {r : Int32} (hz : z < 2 ^ 31) (hR : rm.frames + 1 ≤ room_1.frames ∧ 8 + (4 + 11) + rm.locals ≤ room_1.locals) (hc : rm.cells ≤ 3 ∧ rm.slots ≤ 18)
    (hH : x_RetW l D kc A yL_battery cL_battery 4 (some FieldType.int) [(0, 9, 12, 13)] rm [.ref (ad 0), .int a1, .ref (ad 18)] (wl kc ad S S th ov hw) (some (.int (nI z))) (wl kc ad S2 S th ov2 hw)) (hM : x_Ret l D kc A yX3_battery cX3_battery 2 (some FieldType.int) rm_X3_battery [.ref (ad 6), .int a1] (wl kc ad S2 S th ov2 hw) (some (.int r)) (wl kc ad S2 S2 z ov2 hw2)) (hr : z = 0 → ov2 = r.toInt64)
    (kk : ∀ l5 l6, x_X p l e room_1 s m #[Value.ref b] below meth c D A 7 (200 + (k + 3)) (3000 + 6 * (k + 3)) (lw_Z below #[Value.ref b] s) (wl kc ad S2 S2 z ov2 hw2) 1015 [some (.ref b), some (.ref (ad 0)), some (.ref (ad 6)), some (.ref (ad 18)), some (.int (nI k)), l5, l6] []) : x_X p l e room_1 s m #[Value.ref b] below meth c D A 7 (200 + k) (3000 + 6 * k) (lw_Z below #[Value.ref b] s) (wl kc ad S S th ov hw) 834 [some (.ref b), some (.ref (ad 0)), some (.ref (ad 6)), some (.ref (ad 18)), some (.int (nI k)), l5, l6] [] := by
  refine x_aload1 M dL_law_834 ?_
  refine x_aload0 M dL_law_835 ?_
  refine x_iload4 M dL_law_836 ?_
  refine x_iconst (v := nI 1) M dL_law_838 (by decide +kernel) ?_
  refine n_add M dL_law_839 ?_
  refine x_sld M hX hbl hbA ha1 (by omega) hL dL_law_840 ?_
  refine x_aload3 M dL_law_841 ?_
  refine x_callW M TB hAA mv_L_battery kw_375 dL_law_842 hH rfl hR ⟨by show 200 + k + rm.cells ≤ 601024; omega, by show 3000 + 6 * k + rm.slots ≤ 7293034; omega⟩ (Nat.le_of_ble_eq_true rfl) ?_
  refine x_widen (k := 200 + (k + 3)) (n := 3000 + 6 * (k + 3)) (by omega) (by omega) ?_
  refine x_istore5 M dL_law_845 ?_
  refine x_aload2 M dL_law_847 ?_
  refine x_aload0 M dL_law_848 ?_
  refine x_iload4 M dL_law_849 ?_
  refine x_iconst (v := nI 1) M dL_law_851 (by decide +kernel) ?_
  refine n_add M dL_law_852 ?_
  refine x_sld M hX hbl hbA ha1 (by omega) hL dL_law_853 ?_
  refine x_callV0 M TB hAA mv_X3_battery kw_565 dL_law_854 hM rfl wl_M rfl rfl ⟨by decide, by decide⟩ ⟨⟨rfl, rfl⟩, (by show 200 + (k + 3) ≤ 601024; omega), (by show 3000 + 6 * (k + 3) ≤ 7293034; omega)⟩ (Nat.le_of_ble_eq_true rfl) ?_
  refine x_istore6 M dL_law_857 ?_
  refine x_aload2 M dL_law_859 ?_
  refine x_callV0 M TB hAA mv_X3_thrown kw_461 dL_law_860 m_thrown rfl wl_M rfl rfl ⟨by decide, by decide⟩ ⟨⟨rfl, rfl⟩, (by show 200 + (k + 3) ≤ 601024; omega), (by show 3000 + 6 * (k + 3) ≤ 7293034; omega)⟩ (Nat.le_of_ble_eq_true rfl) ?_
  refine x_iload5 M dL_law_863 ?_
  refine n_icmp_eq (tgt := 870) M (by first | omega | exact hB _ _) (by first | omega | exact hB _ _) dL_law_865 (by decide) (fun q865 => ?_) (fun q865 => absurd rfl q865)
  refine x_iload5 M dL_law_870 ?_
  refine n_if_ne (tgt := 887) M (by first | omega | exact hB _ _) dL_law_872 (by decide) (fun q872 => ?_) (fun q872 => ?_)
  · refine x_goto (tgt := 1015) M dL_law_887 (by decide) ?_
    exact kk _ _
  · refine x_aload3 M dL_law_875 ?_
    refine x_iconst (v := nI 0) M dL_law_876 (by decide +kernel) ?_
    refine aQ M TB dL_law_877 ?_
    refine x_iload6 M dL_law_878 ?_
    refine x_i2l M dL_law_880 ?_
    refine x_lcmp M dL_law_881 ?_
    rw [show lg_cmp ov2 r.toInt64 = 0 from by rw [hr q872, lcmp_0]]
    refine x_if_eq (tgt := 887) M dL_law_882 (by decide) (fun q882 => ?_) (fun q882 => absurd rfl q882)
    refine x_goto (tgt := 1015) M dL_law_887 (by decide) ?_
    exact kk _ _
set_option maxRecDepth 20000 in
set_option maxHeartbeats 2000000 in
theorem k_lies (M : CallFix p m c cL_law 7 s #[Value.ref b] gw RL) (TB : x_TB D kc A s s.heap) (hAA : ∀ q : Nat, s.heap.size ≤ q → A q) (hX : va_X b L xs s s.heap) (hbl : b < s.heap.size) (hbA : ¬ A b) (hL : L ≤ 1536) (hk : k + 3 ≤ L) (hO : Ok S)
    (kk : ∀ l5 l6, x_X p l e room_1 s m #[Value.ref b] below meth c D A 7 (200 + (k + 3)) (3000 + 6 * (k + 3)) (lw_Z below #[Value.ref b] s) (wl kc ad S S 0 ov hw) 1015 [some (.ref b), some (.ref (ad 0)), some (.ref (ad 6)), some (.ref (ad 18)), some (.int (nI k)), l5, l6] []) : x_X p l e room_1 s m #[Value.ref b] below meth c D A 7 (200 + k) (3000 + 6 * k) (lw_Z below #[Value.ref b] s) (wl kc ad S S th ov hw) 890 [some (.ref b), some (.ref (ad 0)), some (.ref (ad 6)), some (.ref (ad 18)), some (.int (nI k)), l5, l6] [] := by
  refine x_aload1 M dL_law_890 ?_
  refine x_callV0 M TB hAA mv_X2_lies kw_135 dL_law_891 (c_lies hO) rfl wl_X rfl rfl ⟨by decide, by decide⟩ ⟨⟨rfl, rfl⟩, (by show 200 + k ≤ 601024; omega), (by show 3000 + 6 * k ≤ 7293034; omega)⟩ (Nat.le_of_ble_eq_true rfl) ?_
  refine x_aload2 M dL_law_894 ?_
  refine x_callV0 M TB hAA mv_X3_lies kw_569 dL_law_895 (m_lies hO) rfl wl_M rfl rfl ⟨by decide, by decide⟩ ⟨⟨rfl, rfl⟩, (by show 200 + k ≤ 601024; omega), (by show 3000 + 6 * k ≤ 7293034; omega)⟩ (Nat.le_of_ble_eq_true rfl) ?_
  refine x_icmp_eq (tgt := 1015) M dL_law_898 (by decide) (fun q898 => ?_) (fun q898 => absurd rfl q898)
  exact x_widen (by omega) (by omega) (kk _ _)
set_option maxRecDepth 20000 in
set_option maxHeartbeats 2000000 in
theorem k_asked (M : CallFix p m c cL_law 7 s #[Value.ref b] gw RL) (TB : x_TB D kc A s s.heap) (hAA : ∀ q : Nat, s.heap.size ≤ q → A q) (hX : va_X b L xs s s.heap) (hbl : b < s.heap.size) (hbA : ¬ A b) (hL : L ≤ 1536) (hk : k + 3 ≤ L) {a1 : Int32} (ha1 : xs (k + 1) = a1) {rm : Room} {z : Nat} {S2 : St} {ov2 : Int64} {hw2 : Nat} {r : Int32} (hz : z < 2 ^ 31) (hR : rm.frames + 1 ≤ room_1.frames ∧ 8 + (4 + 11) + rm.locals ≤ room_1.locals) (hc : rm.cells ≤ 3 ∧ rm.slots ≤ 18)
    (hH : x_RetW l D kc A yL_asked cL_asked 4 (some FieldType.int) [(0, 9, 12, 13)] rm [.ref (ad 0), .int a1, .ref (ad 18)] (wl kc ad S S th ov hw) (some (.int (nI z))) (wl kc ad S2 S th ov2 hw)) (hM : x_Ret l D kc A yX3_asked cX3_asked 4 (some FieldType.int) rm_X3_asked [.ref (ad 6), .int a1] (wl kc ad S2 S th ov2 hw) (some (.int r)) (wl kc ad S2 S2 z ov2 hw2)) (hr : z = 0 → ov2 = r.toInt64)
    (kk : ∀ l5 l6, x_X p l e room_1 s m #[Value.ref b] below meth c D A 7 (200 + (k + 3)) (3000 + 6 * (k + 3)) (lw_Z below #[Value.ref b] s) (wl kc ad S2 S2 z ov2 hw2) 1015 [some (.ref b), some (.ref (ad 0)), some (.ref (ad 6)), some (.ref (ad 18)), some (.int (nI k)), l5, l6] []) : x_X p l e room_1 s m #[Value.ref b] below meth c D A 7 (200 + k) (3000 + 6 * k) (lw_Z below #[Value.ref b] s) (wl kc ad S S th ov hw) 903 [some (.ref b), some (.ref (ad 0)), some (.ref (ad 6)), some (.ref (ad 18)), some (.int (nI k)), l5, l6] [] := by
  refine x_aload1 M dL_law_903 ?_
  refine x_aload0 M dL_law_904 ?_
  refine x_iload4 M dL_law_905 ?_
  refine x_iconst (v := nI 1) M dL_law_907 (by decide +kernel) ?_
  refine n_add M dL_law_908 ?_
  refine x_sld M hX hbl hbA ha1 (by omega) hL dL_law_909 ?_
  refine x_aload3 M dL_law_910 ?_
  refine x_callW M TB hAA mv_L_asked kw_382 dL_law_911 hH rfl hR ⟨by show 200 + k + rm.cells ≤ 601024; omega, by show 3000 + 6 * k + rm.slots ≤ 7293034; omega⟩ (Nat.le_of_ble_eq_true rfl) ?_
  refine x_widen (k := 200 + (k + 3)) (n := 3000 + 6 * (k + 3)) (by omega) (by omega) ?_
  refine x_istore5 M dL_law_914 ?_
  refine x_aload2 M dL_law_916 ?_
  refine x_aload0 M dL_law_917 ?_
  refine x_iload4 M dL_law_918 ?_
  refine x_iconst (v := nI 1) M dL_law_920 (by decide +kernel) ?_
  refine n_add M dL_law_921 ?_
  refine x_sld M hX hbl hbA ha1 (by omega) hL dL_law_922 ?_
  refine x_callV0 M TB hAA mv_X3_asked kw_573 dL_law_923 hM rfl wl_M rfl rfl ⟨by decide, by decide⟩ ⟨⟨rfl, rfl⟩, (by show 200 + (k + 3) ≤ 601024; omega), (by show 3000 + 6 * (k + 3) ≤ 7293034; omega)⟩ (Nat.le_of_ble_eq_true rfl) ?_
  refine x_istore6 M dL_law_926 ?_
  refine x_aload2 M dL_law_928 ?_
  refine x_callV0 M TB hAA mv_X3_thrown kw_461 dL_law_929 m_thrown rfl wl_M rfl rfl ⟨by decide, by decide⟩ ⟨⟨rfl, rfl⟩, (by show 200 + (k + 3) ≤ 601024; omega), (by show 3000 + 6 * (k + 3) ≤ 7293034; omega)⟩ (Nat.le_of_ble_eq_true rfl) ?_
  refine x_iload5 M dL_law_932 ?_
  refine n_icmp_eq (tgt := 939) M (by first | omega | exact hB _ _) (by first | omega | exact hB _ _) dL_law_934 (by decide) (fun q934 => ?_) (fun q934 => absurd rfl q934)
  refine x_iload5 M dL_law_939 ?_
  refine n_if_ne (tgt := 956) M (by first | omega | exact hB _ _) dL_law_941 (by decide) (fun q941 => ?_) (fun q941 => ?_)
  · refine x_goto (tgt := 1015) M dL_law_956 (by decide) ?_
    exact kk _ _
  · refine x_aload3 M dL_law_944 ?_
    refine x_iconst (v := nI 0) M dL_law_945 (by decide +kernel) ?_
    refine aQ M TB dL_law_946 ?_
    refine x_iload6 M dL_law_947 ?_
    refine x_i2l M dL_law_949 ?_
    refine x_lcmp M dL_law_950 ?_
    rw [show lg_cmp ov2 r.toInt64 = 0 from by rw [hr q941, lcmp_0]]
    refine x_if_eq (tgt := 956) M dL_law_951 (by decide) (fun q951 => ?_) (fun q951 => absurd rfl q951)
    refine x_goto (tgt := 1015) M dL_law_956 (by decide) ?_
    exact kk _ _
set_option maxRecDepth 20000 in
set_option maxHeartbeats 2000000 in
theorem k_leastEver (M : CallFix p m c cL_law 7 s #[Value.ref b] gw RL) (TB : x_TB D kc A s s.heap) (hAA : ∀ q : Nat, s.heap.size ≤ q → A q) (hX : va_X b L xs s s.heap) (hbl : b < s.heap.size) (hbA : ¬ A b) (hL : L ≤ 1536) (hk : k + 3 ≤ L) {a1 : Int32} (ha1 : xs (k + 1) = a1) {rm : Room} {z : Nat} {S2 : St} {ov2 : Int64} {hw2 : Nat} {r : Int32} (hz : z < 2 ^ 31) (hR : rm.frames + 1 ≤ room_1.frames ∧ 8 + (4 + 11) + rm.locals ≤ room_1.locals) (hc : rm.cells ≤ 3 ∧ rm.slots ≤ 18)
    (hH : x_RetW l D kc A yL_leastEver cL_leastEver 4 (some FieldType.int) [(0, 9, 12, 13)] rm [.ref (ad 0), .int a1, .ref (ad 18)] (wl kc ad S S th ov hw) (some (.int (nI z))) (wl kc ad S2 S th ov2 hw)) (hM : x_Ret l D kc A yX3_leastEver cX3_leastEver 2 (some FieldType.int) rm_X3_leastEver [.ref (ad 6), .int a1] (wl kc ad S2 S th ov2 hw) (some (.int r)) (wl kc ad S2 S2 z ov2 hw2)) (hr : z = 0 → ov2 = r.toInt64)
    (kk : ∀ l5 l6, x_X p l e room_1 s m #[Value.ref b] below meth c D A 7 (200 + (k + 3)) (3000 + 6 * (k + 3)) (lw_Z below #[Value.ref b] s) (wl kc ad S2 S2 z ov2 hw2) 1015 [some (.ref b), some (.ref (ad 0)), some (.ref (ad 6)), some (.ref (ad 18)), some (.int (nI k)), l5, l6] []) : x_X p l e room_1 s m #[Value.ref b] below meth c D A 7 (200 + k) (3000 + 6 * k) (lw_Z below #[Value.ref b] s) (wl kc ad S S th ov hw) 959 [some (.ref b), some (.ref (ad 0)), some (.ref (ad 6)), some (.ref (ad 18)), some (.int (nI k)), l5, l6] [] := by
  refine x_aload1 M dL_law_959 ?_
  refine x_aload0 M dL_law_960 ?_
  refine x_iload4 M dL_law_961 ?_
  refine x_iconst (v := nI 1) M dL_law_963 (by decide +kernel) ?_
  refine n_add M dL_law_964 ?_
  refine x_sld M hX hbl hbA ha1 (by omega) hL dL_law_965 ?_
  refine x_aload3 M dL_law_966 ?_
  refine x_callW M TB hAA mv_L_leastEver kw_398 dL_law_967 hH rfl hR ⟨by show 200 + k + rm.cells ≤ 601024; omega, by show 3000 + 6 * k + rm.slots ≤ 7293034; omega⟩ (Nat.le_of_ble_eq_true rfl) ?_
  refine x_widen (k := 200 + (k + 3)) (n := 3000 + 6 * (k + 3)) (by omega) (by omega) ?_
  refine x_istore5 M dL_law_970 ?_
  refine x_aload2 M dL_law_972 ?_
  refine x_aload0 M dL_law_973 ?_
  refine x_iload4 M dL_law_974 ?_
  refine x_iconst (v := nI 1) M dL_law_976 (by decide +kernel) ?_
  refine n_add M dL_law_977 ?_
  refine x_sld M hX hbl hbA ha1 (by omega) hL dL_law_978 ?_
  refine x_callV0 M TB hAA mv_X3_leastEver kw_577 dL_law_979 hM rfl wl_M rfl rfl ⟨by decide, by decide⟩ ⟨⟨rfl, rfl⟩, (by show 200 + (k + 3) ≤ 601024; omega), (by show 3000 + 6 * (k + 3) ≤ 7293034; omega)⟩ (Nat.le_of_ble_eq_true rfl) ?_
  refine x_istore6 M dL_law_982 ?_
  refine x_aload2 M dL_law_984 ?_
  refine x_callV0 M TB hAA mv_X3_thrown kw_461 dL_law_985 m_thrown rfl wl_M rfl rfl ⟨by decide, by decide⟩ ⟨⟨rfl, rfl⟩, (by show 200 + (k + 3) ≤ 601024; omega), (by show 3000 + 6 * (k + 3) ≤ 7293034; omega)⟩ (Nat.le_of_ble_eq_true rfl) ?_
  refine x_iload5 M dL_law_988 ?_
  refine n_icmp_eq (tgt := 995) M (by first | omega | exact hB _ _) (by first | omega | exact hB _ _) dL_law_990 (by decide) (fun q990 => ?_) (fun q990 => absurd rfl q990)
  refine x_iload5 M dL_law_995 ?_
  refine n_if_ne (tgt := 1012) M (by first | omega | exact hB _ _) dL_law_997 (by decide) (fun q997 => ?_) (fun q997 => ?_)
  · refine x_goto (tgt := 1015) M dL_law_1012 (by decide) ?_
    exact kk _ _
  · refine x_aload3 M dL_law_1000 ?_
    refine x_iconst (v := nI 0) M dL_law_1001 (by decide +kernel) ?_
    refine aQ M TB dL_law_1002 ?_
    refine x_iload6 M dL_law_1003 ?_
    refine x_i2l M dL_law_1005 ?_
    refine x_lcmp M dL_law_1006 ?_
    rw [show lg_cmp ov2 r.toInt64 = 0 from by rw [hr q997, lcmp_0]]
    refine x_if_eq (tgt := 1012) M dL_law_1007 (by decide) (fun q1007 => ?_) (fun q1007 => absurd rfl q1007)
    refine x_goto (tgt := 1015) M dL_law_1012 (by decide) ?_
    exact kk _ _
end XK
