/-! THE LAW's METHODS: isTill -/
section XM
variable {l : Launch} {D : va_G} {kc : Nat → ClassId} {A : Nat → Prop} {ad : Nat → Nat} {X B : St} {hf : Nat → Int64} {ex : va_W}
theorem mv_L_isTill : x_MS yL_isTill cL_isTill 12 (some FieldType.boolean) 3 := ⟨kw_378, kw_8, ⟨by decide +kernel, by decide +kernel⟩, by decide +kernel, kw_377⟩
abbrev rm_L_isTill : Room := { frames := 3, cells := 0, slots := 0, locals := 67 }
set_option maxRecDepth 20000 in
set_option maxHeartbeats 2000000 in
theorem l_till {t m : Nat} (hI : Iv X t m) : x_Ret l D kc A yL_isTill cL_isTill 12 (some FieldType.boolean) rm_L_isTill [.ref (ad 0), .ref (ad 6), .ref (ad 7)] (wl kc ad X (cS X) (hS X) ex) (some (.int (nI 1))) (wl kc ad X (cS X) (hS X) ex) := by
  refine x_ret_of RL (by decide +kernel) rfl [some (.ref (ad 0)), some (.ref (ad 6)), some (.ref (ad 7)), none, none, none, none, none, none, none, none, none] (Nat.le_of_ble_eq_true rfl) rfl rfl ?_
  intro p e s m args below meth c M hr hlk hnm TB hAA
  have hO := hI.1
  have hn := hO.n
  have hinv := hI.2.2.2.2.2.1
  have hB : ∀ r i, X r i < 2 ^ 31 := fun r i => Nat.lt_trans (hO.bd r i) (by decide)
  have hc1 : cS X 0 1 = X 0 0 := rfl
  have hcl := cnt_le X (X 0 0)
  have loopL : ∀ (d k : Nat) (l7 l8 l9 l10 l11 : Option Value), k + d = X 0 0 → x_X p l e rm_L_isTill s m args below meth c D A 12 0 0 (MQ below (x_Qc D A (some (.int (nI 1))) (wl kc ad X (cS X) (hS X) ex)) args s rm_L_isTill.cells rm_L_isTill.slots A) (wl kc ad X (cS X) (hS X) ex) 190 [some (.ref (ad 0)), some (.ref (ad 6)), some (.ref (ad 7)), some (.int (nI 1)), some (.int (lie X k)), some (.int (nI (cnt X k))), some (.int (nI k)), l7, l8, l9, l10, l11] [] := by
    intro d
    induction d with
    | zero =>
      intro k l7 l8 l9 l10 l11 hk
      obtain rfl : k = X 0 0 := by omega
      have hl11 : lnow X 11 (X 0 0) = 10000 := lnow_no _ (fun i hi => by have := hI.2.2.2.2.1 i hi; omega)
      have hp11 : X 1 11 = 0 := hI.2.2.2.2.2.2.1
      have hx11 : X 11 11 = 10000 := hI.2.2.2.2.2.2.2
      cases hfo : nxt X (X 0 0) with
      | none =>
        refine x_iload6 M dL_isTill_190 ?_
        refine x_aload1 M dL_isTill_192 ?_
        refine x_iconst (v := nI 1) M dL_isTill_193 (by decide +kernel) ?_
        refine aCv M TB hc1 (by omega) dL_isTill_194 ?_
        refine n_icmp_ge (tgt := 306) M (by first | omega | exact hB _ _ | exact hC _ _) (by first | omega | exact hB _ _ | exact hC _ _) dL_isTill_195 (by decide) (fun q195 => ?_) (fun q195 => absurd q195 (by omega))
        refine x_aload0 M dL_isTill_306 ?_
        refine x_callV0 M TB hAA mv_X2_nextToSend kw_114 dL_isTill_307 (c_nextToSend hO.bd hn) rfl wl_X rfl rfl ⟨by decide, by decide⟩ ⟨by decide, by decide⟩ (Nat.le_of_ble_eq_true rfl) ?_
        rw [hfo, show oI none = -1 from rfl]
        refine x_istore6 M dL_isTill_310 ?_
        refine x_iload3 M dL_isTill_312 ?_
        refine n_if_eq (tgt := 373) M (by first | omega | exact hB _ _ | exact hC _ _) dL_isTill_313 (by decide) (fun q313 => absurd q313 (by decide)) (fun q313 => ?_)
        refine x_aload0 M dL_isTill_316 ?_
        refine x_callV0 M TB hAA mv_X2_lies kw_305 dL_isTill_317 (c_lies hO) rfl wl_X rfl rfl ⟨by decide, by decide⟩ ⟨by decide, by decide⟩ (Nat.le_of_ble_eq_true rfl) ?_
        refine x_iload4 M dL_isTill_320 ?_
        refine x_icmp_ne (tgt := 373) M dL_isTill_322 (by decide) (fun q322 => absurd rfl q322) (fun q322 => ?_)
        refine x_aload0 M dL_isTill_325 ?_
        refine x_callV0 M TB hAA mv_X2_orders kw_110 dL_isTill_326 (c_orders hO) rfl wl_X rfl rfl ⟨by decide, by decide⟩ ⟨by decide, by decide⟩ (Nat.le_of_ble_eq_true rfl) ?_
        refine x_iload5 M dL_isTill_329 ?_
        refine n_icmp_ne (tgt := 373) M (by first | omega | exact hB _ _ | exact hC _ _) (by first | omega | exact hB _ _ | exact hC _ _) dL_isTill_331 (by decide) (fun q331 => absurd rfl q331) (fun q331 => ?_)
        refine x_iload6 M dL_isTill_334 ?_
        refine x_iconst (v := (-1)) M dL_isTill_336 (by decide +kernel) ?_
        refine x_icmp_eq (tgt := 350) M dL_isTill_337 (by decide) (fun q337 => ?_) (fun q337 => absurd rfl q337)
        refine x_aload0 M dL_isTill_350 ?_
        refine x_bipush (v := nI 11) M dL_isTill_351 (by decide +kernel) ?_
        refine x_callV0 M TB hAA mv_X2_leastEver kw_213 dL_isTill_353 (c_leastEver hO (j := 11) (by decide)) rfl wl_X rfl rfl ⟨by decide, by decide⟩ ⟨by decide, by decide⟩ (Nat.le_of_ble_eq_true rfl) ?_
        rw [show em (min (lnow X 11 (X 0 0)) (X 11 11)) = -1 from by rw [hl11, hx11]; rfl]
        refine x_iconst (v := (-1)) M dL_isTill_356 (by decide +kernel) ?_
        refine x_icmp_ne (tgt := 373) M dL_isTill_357 (by decide) (fun q357 => absurd rfl q357) (fun q357 => ?_)
        refine x_aload0 M dL_isTill_360 ?_
        refine x_bipush (v := nI 11) M dL_isTill_361 (by decide +kernel) ?_
        refine x_callV0 M TB hAA mv_X2_asked kw_126 dL_isTill_363 (c_asked hO (j := 11) (by decide)) rfl wl_X rfl rfl ⟨by decide, by decide⟩ ⟨by decide, by decide⟩ (Nat.le_of_ble_eq_true rfl) ?_
        rw [show min (X 1 11) (min (lnow X 11 (X 0 0)) (lhr X 11 60)) = 0 by omega]
        refine n_if_ne (tgt := 373) M (by first | omega | exact hB _ _ | exact hC _ _) dL_isTill_366 (by decide) (fun q366 => absurd rfl q366) (fun q366 => ?_)
        refine x_iconst (v := nI 1) M dL_isTill_369 (by decide +kernel) ?_
        refine x_goto (tgt := 374) M dL_isTill_370 (by decide) ?_
        exact x_zret M hr hlk dL_isTill_374 ⟨by decide, by decide⟩ (Or.inr rfl) rfl rfl
      | some j =>
        have hj := (nxt_of hfo).1
        have ho := (nxt_of hfo).2.1
        refine x_iload6 M dL_isTill_190 ?_
        refine x_aload1 M dL_isTill_192 ?_
        refine x_iconst (v := nI 1) M dL_isTill_193 (by decide +kernel) ?_
        refine aCv M TB hc1 (by omega) dL_isTill_194 ?_
        refine n_icmp_ge (tgt := 306) M (by first | omega | exact hB _ _ | exact hC _ _) (by first | omega | exact hB _ _ | exact hC _ _) dL_isTill_195 (by decide) (fun q195 => ?_) (fun q195 => absurd q195 (by omega))
        refine x_aload0 M dL_isTill_306 ?_
        refine x_callV0 M TB hAA mv_X2_nextToSend kw_114 dL_isTill_307 (c_nextToSend hO.bd hn) rfl wl_X rfl rfl ⟨by decide, by decide⟩ ⟨by decide, by decide⟩ (Nat.le_of_ble_eq_true rfl) ?_
        rw [hfo, show oI (some j) = nI j from rfl]
        refine x_istore6 M dL_isTill_310 ?_
        refine x_iload3 M dL_isTill_312 ?_
        refine n_if_eq (tgt := 373) M (by first | omega | exact hB _ _ | exact hC _ _) dL_isTill_313 (by decide) (fun q313 => absurd q313 (by decide)) (fun q313 => ?_)
        refine x_aload0 M dL_isTill_316 ?_
        refine x_callV0 M TB hAA mv_X2_lies kw_305 dL_isTill_317 (c_lies hO) rfl wl_X rfl rfl ⟨by decide, by decide⟩ ⟨by decide, by decide⟩ (Nat.le_of_ble_eq_true rfl) ?_
        refine x_iload4 M dL_isTill_320 ?_
        refine x_icmp_ne (tgt := 373) M dL_isTill_322 (by decide) (fun q322 => absurd rfl q322) (fun q322 => ?_)
        refine x_aload0 M dL_isTill_325 ?_
        refine x_callV0 M TB hAA mv_X2_orders kw_110 dL_isTill_326 (c_orders hO) rfl wl_X rfl rfl ⟨by decide, by decide⟩ ⟨by decide, by decide⟩ (Nat.le_of_ble_eq_true rfl) ?_
        refine x_iload5 M dL_isTill_329 ?_
        refine n_icmp_ne (tgt := 373) M (by first | omega | exact hB _ _ | exact hC _ _) (by first | omega | exact hB _ _ | exact hC _ _) dL_isTill_331 (by decide) (fun q331 => absurd rfl q331) (fun q331 => ?_)
        refine x_iload6 M dL_isTill_334 ?_
        refine x_iconst (v := (-1)) M dL_isTill_336 (by decide +kernel) ?_
        refine x_icmp_eq (tgt := 350) M dL_isTill_337 (by decide) (fun q337 => absurd q337 (nI_m1 (by first | omega | exact hB _ _ | exact hC _ _))) (fun q337 => ?_)
        refine x_aload0 M dL_isTill_340 ?_
        refine x_iload6 M dL_isTill_341 ?_
        refine x_callV0 M TB hAA mv_X2_order kw_271 dL_isTill_343 (c_order hO hj) rfl wl_X rfl rfl ⟨by decide, by decide⟩ ⟨by decide, by decide⟩ (Nat.le_of_ble_eq_true rfl) ?_
        refine x_iconst (v := (-1)) M dL_isTill_346 (by decide +kernel) ?_
        refine e_icmp_eq (tgt := 373) M (by first | omega | exact hB _ _ | exact hC _ _) dL_isTill_347 (by decide) (fun q347 => absurd q347 ho) (fun q347 => ?_)
        refine x_aload0 M dL_isTill_350 ?_
        refine x_bipush (v := nI 11) M dL_isTill_351 (by decide +kernel) ?_
        refine x_callV0 M TB hAA mv_X2_leastEver kw_213 dL_isTill_353 (c_leastEver hO (j := 11) (by decide)) rfl wl_X rfl rfl ⟨by decide, by decide⟩ ⟨by decide, by decide⟩ (Nat.le_of_ble_eq_true rfl) ?_
        rw [show em (min (lnow X 11 (X 0 0)) (X 11 11)) = -1 from by rw [hl11, hx11]; rfl]
        refine x_iconst (v := (-1)) M dL_isTill_356 (by decide +kernel) ?_
        refine x_icmp_ne (tgt := 373) M dL_isTill_357 (by decide) (fun q357 => absurd rfl q357) (fun q357 => ?_)
        refine x_aload0 M dL_isTill_360 ?_
        refine x_bipush (v := nI 11) M dL_isTill_361 (by decide +kernel) ?_
        refine x_callV0 M TB hAA mv_X2_asked kw_126 dL_isTill_363 (c_asked hO (j := 11) (by decide)) rfl wl_X rfl rfl ⟨by decide, by decide⟩ ⟨by decide, by decide⟩ (Nat.le_of_ble_eq_true rfl) ?_
        rw [show min (X 1 11) (min (lnow X 11 (X 0 0)) (lhr X 11 60)) = 0 by omega]
        refine n_if_ne (tgt := 373) M (by first | omega | exact hB _ _ | exact hC _ _) dL_isTill_366 (by decide) (fun q366 => absurd rfl q366) (fun q366 => ?_)
        refine x_iconst (v := nI 1) M dL_isTill_369 (by decide +kernel) ?_
        refine x_goto (tgt := 374) M dL_isTill_370 (by decide) ?_
        exact x_zret M hr hlk dL_isTill_374 ⟨by decide, by decide⟩ (Or.inr rfl) rfl rfl
    | succ d ih =>
      intro k l7 l8 l9 l10 l11 hk
      have hk2 : k < X 0 0 := by omega
      have hcw : cS X 0 (3 + k) = X 2 k := cS_w X (by omega)
      have hgk := hO.g k
      have hwk := hO.w k
      have hck := cnt_le X k
      have J : x_X p l e rm_L_isTill s m args below meth c D A 12 0 0 (MQ below (x_Qc D A (some (.int (nI 1))) (wl kc ad X (cS X) (hS X) ex)) args s rm_L_isTill.cells rm_L_isTill.slots A) (wl kc ad X (cS X) (hS X) ex) 234 [some (.ref (ad 0)), some (.ref (ad 6)), some (.ref (ad 7)), some (.int (nI 1)), some (.int (lie X (k + 1))), some (.int (nI (cnt X k))), some (.int (nI k)), l7, l8, l9, l10, l11] [] := by
        refine x_iload5 M dL_isTill_234 ?_
        refine x_aload0 M dL_isTill_236 ?_
        refine x_iload6 M dL_isTill_237 ?_
        refine x_callV0 M TB hAA mv_X2_order kw_271 dL_isTill_239 (c_order (X := X) hO hk2) rfl wl_X rfl rfl ⟨by decide, by decide⟩ ⟨by decide, by decide⟩ (Nat.le_of_ble_eq_true rfl) ?_
        refine x_iconst (v := (-1)) M dL_isTill_242 (by decide +kernel) ?_
        refine e_icmp_ne (tgt := 250) M (by first | omega | exact hB _ _ | exact hC _ _) dL_isTill_243 (by decide) (fun q243 => ?_) (fun q243 => ?_)
        · refine x_iconst (v := nI 1) M dL_isTill_250 (by decide +kernel) ?_
          refine n_add M dL_isTill_251 ?_
          refine x_istore5 M dL_isTill_252 ?_
          refine x_aload0 M dL_isTill_254 ?_
          refine x_iload6 M dL_isTill_255 ?_
          refine x_callV0 M TB hAA mv_X2_order kw_271 dL_isTill_257 (c_order (X := X) hO hk2) rfl wl_X rfl rfl ⟨by decide, by decide⟩ ⟨by decide, by decide⟩ (Nat.le_of_ble_eq_true rfl) ?_
          refine x_iconst (v := (-1)) M dL_isTill_260 (by decide +kernel) ?_
          refine e_icmp_ne (tgt := 283) M (by first | omega | exact hB _ _ | exact hC _ _) dL_isTill_261 (by decide) (fun q261 => ?_) (fun q261 => absurd q261 q243)
          refine x_aload0 M dL_isTill_283 ?_
          refine x_iload6 M dL_isTill_284 ?_
          refine x_callV0 M TB hAA mv_X2_ghosts kw_267 dL_isTill_286 (c_ghosts (X := X) hO hk2) rfl wl_X rfl rfl ⟨by decide, by decide⟩ ⟨by decide, by decide⟩ (Nat.le_of_ble_eq_true rfl) ?_
          refine x_bipush (v := nI 9) M dL_isTill_289 (by decide +kernel) ?_
          refine n_icmp_gt (tgt := 298) M (by first | omega | exact hB _ _ | exact hC _ _) (by first | omega | exact hB _ _ | exact hC _ _) dL_isTill_291 (by decide) (fun q291 => absurd q291 (by omega)) (fun q291 => ?_)
          refine x_iconst (v := nI 1) M dL_isTill_294 (by decide +kernel) ?_
          refine x_goto (tgt := 299) M dL_isTill_295 (by decide) ?_
          refine x_istore3 M dL_isTill_299 ?_
          refine n_inc6 M dL_isTill_300 ?_
          refine x_goto (tgt := 190) M dL_isTill_303 (by decide) ?_
          rw [show cnt X k + 1 = cnt X (k + 1) from (cnt_o q243).symm]
          exact ih (k + 1) _ _ _ _ _ (by omega)
        · refine x_iconst (v := nI 0) M dL_isTill_246 (by decide +kernel) ?_
          refine x_goto (tgt := 251) M dL_isTill_247 (by decide) ?_
          refine n_add M dL_isTill_251 ?_
          refine x_istore5 M dL_isTill_252 ?_
          refine x_aload0 M dL_isTill_254 ?_
          refine x_iload6 M dL_isTill_255 ?_
          refine x_callV0 M TB hAA mv_X2_order kw_271 dL_isTill_257 (c_order (X := X) hO hk2) rfl wl_X rfl rfl ⟨by decide, by decide⟩ ⟨by decide, by decide⟩ (Nat.le_of_ble_eq_true rfl) ?_
          refine x_iconst (v := (-1)) M dL_isTill_260 (by decide +kernel) ?_
          refine e_icmp_ne (tgt := 283) M (by first | omega | exact hB _ _ | exact hC _ _) dL_isTill_261 (by decide) (fun q261 => absurd q243 q261) (fun q261 => ?_)
          refine x_aload0 M dL_isTill_264 ?_
          refine x_iload6 M dL_isTill_265 ?_
          refine x_callV0 M TB hAA mv_X2_shown kw_250 dL_isTill_267 (c_shown (X := X) hO hk2) rfl wl_X rfl rfl ⟨by decide, by decide⟩ ⟨by decide, by decide⟩ (Nat.le_of_ble_eq_true rfl) ?_
          refine x_aload0 M dL_isTill_270 ?_
          refine x_aload1 M dL_isTill_271 ?_
          refine x_iconst (v := nI 3) M dL_isTill_272 (by decide +kernel) ?_
          refine x_iload6 M dL_isTill_273 ?_
          refine n_add M dL_isTill_275 ?_
          refine aCv M TB hcw (by omega) dL_isTill_276 ?_
          refine x_callV0 M TB hAA mv_X2_price kw_259 dL_isTill_277 (c_price (X := X) hwk) rfl wl_X rfl rfl ⟨by decide, by decide⟩ ⟨by decide, by decide⟩ (Nat.le_of_ble_eq_true rfl) ?_
          refine n_icmp_ne (tgt := 298) M (by first | omega | exact hB _ _ | exact hC _ _) (by first | omega | exact hB _ _ | exact hC _ _) dL_isTill_280 (by decide) (fun q280 => absurd (hinv k hk2 q261) q280) (fun q280 => ?_)
          refine x_aload0 M dL_isTill_283 ?_
          refine x_iload6 M dL_isTill_284 ?_
          refine x_callV0 M TB hAA mv_X2_ghosts kw_267 dL_isTill_286 (c_ghosts (X := X) hO hk2) rfl wl_X rfl rfl ⟨by decide, by decide⟩ ⟨by decide, by decide⟩ (Nat.le_of_ble_eq_true rfl) ?_
          refine x_bipush (v := nI 9) M dL_isTill_289 (by decide +kernel) ?_
          refine n_icmp_gt (tgt := 298) M (by first | omega | exact hB _ _ | exact hC _ _) (by first | omega | exact hB _ _ | exact hC _ _) dL_isTill_291 (by decide) (fun q291 => absurd q291 (by omega)) (fun q291 => ?_)
          refine x_iconst (v := nI 1) M dL_isTill_294 (by decide +kernel) ?_
          refine x_goto (tgt := 299) M dL_isTill_295 (by decide) ?_
          refine x_istore3 M dL_isTill_299 ?_
          refine n_inc6 M dL_isTill_300 ?_
          refine x_goto (tgt := 190) M dL_isTill_303 (by decide) ?_
          rw [show cnt X k + 0 = cnt X (k + 1) from (cnt_z q243).symm]
          exact ih (k + 1) _ _ _ _ _ (by omega)
      refine x_iload6 M dL_isTill_190 ?_
      refine x_aload1 M dL_isTill_192 ?_
      refine x_iconst (v := nI 1) M dL_isTill_193 (by decide +kernel) ?_
      refine aCv M TB hc1 (by omega) dL_isTill_194 ?_
      refine n_icmp_ge (tgt := 306) M (by first | omega | exact hB _ _ | exact hC _ _) (by first | omega | exact hB _ _ | exact hC _ _) dL_isTill_195 (by decide) (fun q195 => absurd q195 (by omega)) (fun q195 => ?_)
      refine x_iload3 M dL_isTill_198 ?_
      refine n_if_eq (tgt := 306) M (by first | omega | exact hB _ _ | exact hC _ _) dL_isTill_199 (by decide) (fun q199 => absurd q199 (by decide)) (fun q199 => ?_)
      refine x_iload4 M dL_isTill_202 ?_
      refine x_aload0 M dL_isTill_204 ?_
      refine x_iload6 M dL_isTill_205 ?_
      refine x_callV0 M TB hAA mv_X2_shown kw_250 dL_isTill_207 (c_shown (X := X) hO hk2) rfl wl_X rfl rfl ⟨by decide, by decide⟩ ⟨by decide, by decide⟩ (Nat.le_of_ble_eq_true rfl) ?_
      refine x_aload0 M dL_isTill_210 ?_
      refine x_aload1 M dL_isTill_211 ?_
      refine x_iconst (v := nI 3) M dL_isTill_212 (by decide +kernel) ?_
      refine x_iload6 M dL_isTill_213 ?_
      refine n_add M dL_isTill_215 ?_
      refine aCv M TB hcw (by omega) dL_isTill_216 ?_
      refine x_callV0 M TB hAA mv_X2_price kw_259 dL_isTill_217 (c_price (X := X) hwk) rfl wl_X rfl rfl ⟨by decide, by decide⟩ ⟨by decide, by decide⟩ (Nat.le_of_ble_eq_true rfl) ?_
      refine n_icmp_ge (tgt := 230) M (by first | omega | exact hB _ _ | exact hC _ _) (by first | omega | exact hB _ _ | exact hC _ _) dL_isTill_220 (by decide) (fun q220 => ?_) (fun q220 => ?_)
      · refine x_iconst (v := nI 0) M dL_isTill_230 (by decide +kernel) ?_
        refine x_ior M dL_isTill_231 rfl ?_
        refine x_istore4 M dL_isTill_232 ?_
        rw [show lie X k ||| nI 0 = lie X (k + 1) from by rw [lie_n (by omega)]; exact Int32.or_zero]
        exact J
      · refine x_iconst (v := nI 1) M dL_isTill_223 (by decide +kernel) ?_
        refine x_iload6 M dL_isTill_224 ?_
        refine x_ishl M dL_isTill_226 rfl ?_
        refine x_goto (tgt := 231) M dL_isTill_227 (by decide) ?_
        refine x_ior M dL_isTill_231 rfl ?_
        refine x_istore4 M dL_isTill_232 ?_
        rw [show lie X k ||| (nI 1 <<< (nI k &&& 31)) = lie X (k + 1) from (lie_y q220).symm]
        exact J
  have loopW : ∀ (d w : Nat) (l7 l8 l9 l10 l11 : Option Value), w + d = 3 → x_X p l e rm_L_isTill s m args below meth c D A 12 0 0 (MQ below (x_Qc D A (some (.int (nI 1))) (wl kc ad X (cS X) (hS X) ex)) args s rm_L_isTill.cells rm_L_isTill.slots A) (wl kc ad X (cS X) (hS X) ex) 11 [some (.ref (ad 0)), some (.ref (ad 6)), some (.ref (ad 7)), some (.int (nI 1)), some (.int (lie X 0)), some (.int (nI 0)), some (.int (nI w)), l7, l8, l9, l10, l11] [] := by
    intro d
    induction d with
    | zero =>
      intro w l7 l8 l9 l10 l11 hw
      refine x_iload6 M dL_isTill_11 ?_
      refine x_iconst (v := nI 3) M dL_isTill_13 (by decide +kernel) ?_
      refine n_icmp_ge (tgt := 187) M (by first | omega | exact hB _ _ | exact hC _ _) (by first | omega | exact hB _ _ | exact hC _ _) dL_isTill_14 (by decide) (fun q14 => ?_) (fun q14 => absurd q14 (by omega))
      refine x_iconst (v := nI 0) M dL_isTill_187 (by decide +kernel) ?_
      refine x_istore6 M dL_isTill_188 ?_
      exact loopL (X 0 0) 0 _ _ _ _ _ (by omega)
    | succ d ih =>
      intro w l7 l8 l9 l10 l11 hw
      have hw3 : w < 3 := by omega
      have hv := lnow_le X w (X 0 0)
      have hp := hO.p w
      have hx := hO.e w
      have hl60 := lhr_le X w 60
      have hce : cS X 0 (15 + w) = ew (X 11 w) := cS_e X hw3
      have loopK : ∀ (l8 : Option Value), (∀ l11, x_X p l e rm_L_isTill s m args below meth c D A 12 0 0 (MQ below (x_Qc D A (some (.int (nI 1))) (wl kc ad X (cS X) (hS X) ex)) args s rm_L_isTill.cells rm_L_isTill.slots A) (wl kc ad X (cS X) (hS X) ex) 115 [some (.ref (ad 0)), some (.ref (ad 6)), some (.ref (ad 7)), some (.int (nI 1)), some (.int (lie X 0)), some (.int (nI 0)), some (.int (nI w)), some (.int (nI (X 1 w))), l8, some (.int (nI (min (min (X 1 w) (lnow X w (X 0 0))) (lhr X w 60)))), some (.int (nI 60)), l11] []) → ∀ (d k : Nat) (l11 : Option Value), k + d = 60 → x_X p l e rm_L_isTill s m args below meth c D A 12 0 0 (MQ below (x_Qc D A (some (.int (nI 1))) (wl kc ad X (cS X) (hS X) ex)) args s rm_L_isTill.cells rm_L_isTill.slots A) (wl kc ad X (cS X) (hS X) ex) 62 [some (.ref (ad 0)), some (.ref (ad 6)), some (.ref (ad 7)), some (.int (nI 1)), some (.int (lie X 0)), some (.int (nI 0)), some (.int (nI w)), some (.int (nI (X 1 w))), l8, some (.int (nI (min (min (X 1 w) (lnow X w (X 0 0))) (lhr X w k)))), some (.int (nI k)), l11] [] := by
        intro l8 hexit d
        induction d with
        | zero =>
          intro k l11 hk
          obtain rfl : k = 60 := by omega
          refine x_iload10 M dL_isTill_62 ?_
          refine x_bipush (v := nI 60) M dL_isTill_64 (by decide +kernel) ?_
          refine n_icmp_ge (tgt := 115) M (by first | omega | exact hB _ _ | exact hC _ _) (by first | omega | exact hB _ _ | exact hC _ _) dL_isTill_66 (by decide) (fun q66 => ?_) (fun q66 => absurd q66 (by omega))
          exact hexit _
        | succ d ihk =>
          intro k l11 hk
          have hk60 : k < 60 := by omega
          have hu := hO.l (60 * w + k)
          have hfk : ∀ w, (fun w => ew (X 10 (60 * w + k))) w ≤ 10000 := fun w => ew_le (hO.l _)
          have hps : psum (fun w => ew (X 10 (60 * w + k))) 3 < 2 ^ 62 := Nat.lt_trans (psum_lt hfk 3 (by decide)) (by decide)
          have hl1 : lhr X w (k + 1) = min (lhr X w k) (X 10 (60 * w + k)) := rfl
          have hlk := lhr_le X w k
          rcases em_c hu with ⟨e1, e2⟩ | ⟨e1, e2⟩
          · skip
            refine x_iload10 M dL_isTill_62 ?_
            refine x_bipush (v := nI 60) M dL_isTill_64 (by decide +kernel) ?_
            refine n_icmp_ge (tgt := 115) M (by first | omega | exact hB _ _ | exact hC _ _) (by first | omega | exact hB _ _ | exact hC _ _) dL_isTill_66 (by decide) (fun q66 => absurd q66 (by omega)) (fun q66 => ?_)
            refine x_aload2 M dL_isTill_69 ?_
            refine x_iload10 M dL_isTill_70 ?_
            refine aH M TB (by omega) dL_isTill_72 ?_
            rw [show hS X k = lN (psum (fun w => ew (X 10 (60 * w + k))) 3) from if_pos hk60]
            refine x_bipush (v := nI 14) M dL_isTill_73 (by decide +kernel) ?_
            refine x_iload6 M dL_isTill_75 ?_
            refine n_mul M dL_isTill_77 ?_
            refine x_lshr M dL_isTill_78 (pk_shr3 hw3 hps) ?_
            refine x_ldc2 M kw_379 dL_isTill_79 ?_
            refine x_land M dL_isTill_82 rfl ?_
            refine x_l2i M dL_isTill_83 (pk_pull (f := (fun w => ew (X 10 (60 * w + k)))) hfk hw3) ?_
            refine x_iconst (v := nI 1) M dL_isTill_84 (by decide +kernel) ?_
            refine x_isub M dL_isTill_85 (em_ew hu) ?_
            rw [e2]
            refine x_istore11 M dL_isTill_86 ?_
            refine x_iload11 M dL_isTill_88 ?_
            refine x_if_lt (tgt := 105) M dL_isTill_90 (by decide) (fun q90 => ?_) (fun q90 => absurd (by decide) q90)
            refine x_iload9 M dL_isTill_105 ?_
            refine x_istore9 M dL_isTill_107 ?_
            refine n_inc10 M dL_isTill_109 ?_
            refine x_goto (tgt := 62) M dL_isTill_112 (by decide) ?_
            rw [show min (min (X 1 w) (lnow X w (X 0 0))) (lhr X w k) = min (min (X 1 w) (lnow X w (X 0 0))) (lhr X w (k + 1)) by omega]
            exact ihk (k + 1) _ (by omega)
          · skip
            refine x_iload10 M dL_isTill_62 ?_
            refine x_bipush (v := nI 60) M dL_isTill_64 (by decide +kernel) ?_
            refine n_icmp_ge (tgt := 115) M (by first | omega | exact hB _ _ | exact hC _ _) (by first | omega | exact hB _ _ | exact hC _ _) dL_isTill_66 (by decide) (fun q66 => absurd q66 (by omega)) (fun q66 => ?_)
            refine x_aload2 M dL_isTill_69 ?_
            refine x_iload10 M dL_isTill_70 ?_
            refine aH M TB (by omega) dL_isTill_72 ?_
            rw [show hS X k = lN (psum (fun w => ew (X 10 (60 * w + k))) 3) from if_pos hk60]
            refine x_bipush (v := nI 14) M dL_isTill_73 (by decide +kernel) ?_
            refine x_iload6 M dL_isTill_75 ?_
            refine n_mul M dL_isTill_77 ?_
            refine x_lshr M dL_isTill_78 (pk_shr3 hw3 hps) ?_
            refine x_ldc2 M kw_379 dL_isTill_79 ?_
            refine x_land M dL_isTill_82 rfl ?_
            refine x_l2i M dL_isTill_83 (pk_pull (f := (fun w => ew (X 10 (60 * w + k)))) hfk hw3) ?_
            refine x_iconst (v := nI 1) M dL_isTill_84 (by decide +kernel) ?_
            refine x_isub M dL_isTill_85 (em_ew hu) ?_
            rw [e2]
            refine x_istore11 M dL_isTill_86 ?_
            refine x_iload11 M dL_isTill_88 ?_
            refine n_if_lt (tgt := 105) M (by first | omega | exact hB _ _ | exact hC _ _) dL_isTill_90 (by decide) (fun q90 => q90.elim) (fun q90 => ?_)
            refine x_iload11 M dL_isTill_93 ?_
            refine x_iload9 M dL_isTill_95 ?_
            refine n_icmp_ge (tgt := 105) M (by first | omega | exact hB _ _ | exact hC _ _) (by first | omega | exact hB _ _ | exact hC _ _) dL_isTill_97 (by decide) (fun q97 => ?_) (fun q97 => ?_)
            · refine x_iload9 M dL_isTill_105 ?_
              refine x_istore9 M dL_isTill_107 ?_
              refine n_inc10 M dL_isTill_109 ?_
              refine x_goto (tgt := 62) M dL_isTill_112 (by decide) ?_
              rw [show min (min (X 1 w) (lnow X w (X 0 0))) (lhr X w k) = min (min (X 1 w) (lnow X w (X 0 0))) (lhr X w (k + 1)) by omega]
              exact ihk (k + 1) _ (by omega)
            · refine x_iload11 M dL_isTill_100 ?_
              refine x_goto (tgt := 107) M dL_isTill_102 (by decide) ?_
              refine x_istore9 M dL_isTill_107 ?_
              refine n_inc10 M dL_isTill_109 ?_
              refine x_goto (tgt := 62) M dL_isTill_112 (by decide) ?_
              rw [show X 10 (60 * w + k) = min (min (X 1 w) (lnow X w (X 0 0))) (lhr X w (k + 1)) by omega]
              exact ihk (k + 1) _ (by omega)
      rcases em_c hv with ⟨e1, e2⟩ | ⟨e1, e2⟩
      · have hexit : ∀ l11, x_X p l e rm_L_isTill s m args below meth c D A 12 0 0 (MQ below (x_Qc D A (some (.int (nI 1))) (wl kc ad X (cS X) (hS X) ex)) args s rm_L_isTill.cells rm_L_isTill.slots A) (wl kc ad X (cS X) (hS X) ex) 115 [some (.ref (ad 0)), some (.ref (ad 6)), some (.ref (ad 7)), some (.int (nI 1)), some (.int (lie X 0)), some (.int (nI 0)), some (.int (nI w)), some (.int (nI (X 1 w))), some (.int (-1)), some (.int (nI (min (min (X 1 w) (lnow X w (X 0 0))) (lhr X w 60)))), some (.int (nI 60)), l11] [] := by
          intro l11
          rcases em_c hx with ⟨x1, x2⟩ | ⟨x1, x2⟩
          · skip
            refine x_aload1 M dL_isTill_115 ?_
            refine x_bipush (v := nI 15) M dL_isTill_116 (by decide +kernel) ?_
            refine x_iload6 M dL_isTill_118 ?_
            refine n_add M dL_isTill_120 ?_
            refine aCv M TB hce (by omega) dL_isTill_121 ?_
            refine x_iconst (v := nI 1) M dL_isTill_122 (by decide +kernel) ?_
            refine x_isub M dL_isTill_123 (em_ew hx) ?_
            rw [x2]
            refine x_istore10 M dL_isTill_124 ?_
            refine x_aload0 M dL_isTill_126 ?_
            refine x_iload6 M dL_isTill_127 ?_
            refine x_callV0 M TB hAA mv_X2_asked kw_126 dL_isTill_129 (c_asked hO (show w < 12 by omega)) rfl wl_X rfl rfl ⟨by decide, by decide⟩ ⟨by decide, by decide⟩ (Nat.le_of_ble_eq_true rfl) ?_
            refine x_iload9 M dL_isTill_132 ?_
            refine n_icmp_ne (tgt := 179) M (by first | omega | exact hB _ _ | exact hC _ _) (by first | omega | exact hB _ _ | exact hC _ _) dL_isTill_134 (by decide) (fun q134 => absurd (by omega) q134) (fun q134 => ?_)
            refine x_aload0 M dL_isTill_137 ?_
            refine x_iload6 M dL_isTill_138 ?_
            refine x_callV0 M TB hAA mv_X2_leastEver kw_213 dL_isTill_140 (c_leastEver hO (show w < 12 by omega)) rfl wl_X rfl rfl ⟨by decide, by decide⟩ ⟨by decide, by decide⟩ (Nat.le_of_ble_eq_true rfl) ?_
            rw [show em (min (lnow X w (X 0 0)) (X 11 w)) = -1 from by rw [e1, x1]; rfl]
            refine x_iload8 M dL_isTill_143 ?_
            refine x_if_ge (tgt := 153) M dL_isTill_145 (by decide) (fun q145 => absurd q145 (by decide)) (fun q145 => ?_)
            refine x_iload10 M dL_isTill_148 ?_
            refine x_goto (tgt := 172) M dL_isTill_150 (by decide) ?_
            refine x_icmp_ne (tgt := 179) M dL_isTill_172 (by decide) (fun q172 => absurd rfl q172) (fun q172 => ?_)
            refine x_iconst (v := nI 1) M dL_isTill_175 (by decide +kernel) ?_
            refine x_goto (tgt := 180) M dL_isTill_176 (by decide) ?_
            refine x_istore3 M dL_isTill_180 ?_
            refine n_inc6 M dL_isTill_181 ?_
            refine x_goto (tgt := 11) M dL_isTill_184 (by decide) ?_
            exact ih (w + 1) _ _ _ _ _ (by omega)
          · skip
            refine x_aload1 M dL_isTill_115 ?_
            refine x_bipush (v := nI 15) M dL_isTill_116 (by decide +kernel) ?_
            refine x_iload6 M dL_isTill_118 ?_
            refine n_add M dL_isTill_120 ?_
            refine aCv M TB hce (by omega) dL_isTill_121 ?_
            refine x_iconst (v := nI 1) M dL_isTill_122 (by decide +kernel) ?_
            refine x_isub M dL_isTill_123 (em_ew hx) ?_
            rw [x2]
            refine x_istore10 M dL_isTill_124 ?_
            refine x_aload0 M dL_isTill_126 ?_
            refine x_iload6 M dL_isTill_127 ?_
            refine x_callV0 M TB hAA mv_X2_asked kw_126 dL_isTill_129 (c_asked hO (show w < 12 by omega)) rfl wl_X rfl rfl ⟨by decide, by decide⟩ ⟨by decide, by decide⟩ (Nat.le_of_ble_eq_true rfl) ?_
            refine x_iload9 M dL_isTill_132 ?_
            refine n_icmp_ne (tgt := 179) M (by first | omega | exact hB _ _ | exact hC _ _) (by first | omega | exact hB _ _ | exact hC _ _) dL_isTill_134 (by decide) (fun q134 => absurd (by omega) q134) (fun q134 => ?_)
            refine x_aload0 M dL_isTill_137 ?_
            refine x_iload6 M dL_isTill_138 ?_
            refine x_callV0 M TB hAA mv_X2_leastEver kw_213 dL_isTill_140 (c_leastEver hO (show w < 12 by omega)) rfl wl_X rfl rfl ⟨by decide, by decide⟩ ⟨by decide, by decide⟩ (Nat.le_of_ble_eq_true rfl) ?_
            rw [show em (min (lnow X w (X 0 0)) (X 11 w)) = nI (X 11 w) from by rw [show min (lnow X w (X 0 0)) (X 11 w) = X 11 w by omega]; exact x2]
            refine x_iload8 M dL_isTill_143 ?_
            refine x_if_ge (tgt := 153) M dL_isTill_145 (by decide) (fun q145 => absurd q145 (by decide)) (fun q145 => ?_)
            refine x_iload10 M dL_isTill_148 ?_
            refine x_goto (tgt := 172) M dL_isTill_150 (by decide) ?_
            refine n_icmp_ne (tgt := 179) M (by first | omega | exact hB _ _ | exact hC _ _) (by first | omega | exact hB _ _ | exact hC _ _) dL_isTill_172 (by decide) (fun q172 => absurd (by omega) q172) (fun q172 => ?_)
            refine x_iconst (v := nI 1) M dL_isTill_175 (by decide +kernel) ?_
            refine x_goto (tgt := 180) M dL_isTill_176 (by decide) ?_
            refine x_istore3 M dL_isTill_180 ?_
            refine n_inc6 M dL_isTill_181 ?_
            refine x_goto (tgt := 11) M dL_isTill_184 (by decide) ?_
            exact ih (w + 1) _ _ _ _ _ (by omega)
        have J : ∀ n9, n9 = min (X 1 w) (lnow X w (X 0 0)) → x_X p l e rm_L_isTill s m args below meth c D A 12 0 0 (MQ below (x_Qc D A (some (.int (nI 1))) (wl kc ad X (cS X) (hS X) ex)) args s rm_L_isTill.cells rm_L_isTill.slots A) (wl kc ad X (cS X) (hS X) ex) 57 [some (.ref (ad 0)), some (.ref (ad 6)), some (.ref (ad 7)), some (.int (nI 1)), some (.int (lie X 0)), some (.int (nI 0)), some (.int (nI w)), some (.int (nI (X 1 w))), some (.int (-1)), l9, l10, l11] [.int (nI n9)] := by
          intro n9 hn9
          rw [show n9 = min (min (X 1 w) (lnow X w (X 0 0))) (lhr X w 0) from by rw [show lhr X w 0 = 10000 from rfl]; omega]
          refine x_istore9 M dL_isTill_57 ?_
          refine x_iconst (v := nI 0) M dL_isTill_59 (by decide +kernel) ?_
          refine x_istore10 M dL_isTill_60 ?_
          exact loopK _ hexit 60 0 _ rfl
        refine x_iload6 M dL_isTill_11 ?_
        refine x_iconst (v := nI 3) M dL_isTill_13 (by decide +kernel) ?_
        refine n_icmp_ge (tgt := 187) M (by first | omega | exact hB _ _ | exact hC _ _) (by first | omega | exact hB _ _ | exact hC _ _) dL_isTill_14 (by decide) (fun q14 => absurd q14 (by omega)) (fun q14 => ?_)
        refine x_iload3 M dL_isTill_17 ?_
        refine n_if_eq (tgt := 187) M (by first | omega | exact hB _ _ | exact hC _ _) dL_isTill_18 (by decide) (fun q18 => absurd q18 (by decide)) (fun q18 => ?_)
        refine x_aload0 M dL_isTill_21 ?_
        refine x_iload6 M dL_isTill_22 ?_
        refine x_callV0 M TB hAA mv_X2_price kw_259 dL_isTill_24 (c_price (X := X) (show w < 12 by omega)) rfl wl_X rfl rfl ⟨by decide, by decide⟩ ⟨by decide, by decide⟩ (Nat.le_of_ble_eq_true rfl) ?_
        refine x_istore7 M dL_isTill_27 ?_
        refine x_aload0 M dL_isTill_29 ?_
        refine x_aload1 M dL_isTill_30 ?_
        refine x_iload6 M dL_isTill_31 ?_
        refine x_callS0 M TB hAA mv_L_leastNow kw_373 dL_isTill_33 (l_leastNow hO hc1 (fun i hi => cS_w X (by omega)) (show w < 12 by omega)) rfl ⟨by decide, by decide⟩ ⟨by decide, by decide⟩ (Nat.le_of_ble_eq_true rfl) ?_
        rw [e2]
        refine x_istore8 M dL_isTill_36 ?_
        refine x_iload8 M dL_isTill_38 ?_
        refine x_if_lt (tgt := 55) M dL_isTill_40 (by decide) (fun q40 => ?_) (fun q40 => absurd (by decide) q40)
        refine x_iload7 M dL_isTill_55 ?_
        exact J _ (by omega)
      · have hexit : ∀ l11, x_X p l e rm_L_isTill s m args below meth c D A 12 0 0 (MQ below (x_Qc D A (some (.int (nI 1))) (wl kc ad X (cS X) (hS X) ex)) args s rm_L_isTill.cells rm_L_isTill.slots A) (wl kc ad X (cS X) (hS X) ex) 115 [some (.ref (ad 0)), some (.ref (ad 6)), some (.ref (ad 7)), some (.int (nI 1)), some (.int (lie X 0)), some (.int (nI 0)), some (.int (nI w)), some (.int (nI (X 1 w))), some (.int (nI (lnow X w (X 0 0)))), some (.int (nI (min (min (X 1 w) (lnow X w (X 0 0))) (lhr X w 60)))), some (.int (nI 60)), l11] [] := by
          intro l11
          rcases em_c hx with ⟨x1, x2⟩ | ⟨x1, x2⟩
          · skip
            refine x_aload1 M dL_isTill_115 ?_
            refine x_bipush (v := nI 15) M dL_isTill_116 (by decide +kernel) ?_
            refine x_iload6 M dL_isTill_118 ?_
            refine n_add M dL_isTill_120 ?_
            refine aCv M TB hce (by omega) dL_isTill_121 ?_
            refine x_iconst (v := nI 1) M dL_isTill_122 (by decide +kernel) ?_
            refine x_isub M dL_isTill_123 (em_ew hx) ?_
            rw [x2]
            refine x_istore10 M dL_isTill_124 ?_
            refine x_aload0 M dL_isTill_126 ?_
            refine x_iload6 M dL_isTill_127 ?_
            refine x_callV0 M TB hAA mv_X2_asked kw_126 dL_isTill_129 (c_asked hO (show w < 12 by omega)) rfl wl_X rfl rfl ⟨by decide, by decide⟩ ⟨by decide, by decide⟩ (Nat.le_of_ble_eq_true rfl) ?_
            refine x_iload9 M dL_isTill_132 ?_
            refine n_icmp_ne (tgt := 179) M (by first | omega | exact hB _ _ | exact hC _ _) (by first | omega | exact hB _ _ | exact hC _ _) dL_isTill_134 (by decide) (fun q134 => absurd (by omega) q134) (fun q134 => ?_)
            refine x_aload0 M dL_isTill_137 ?_
            refine x_iload6 M dL_isTill_138 ?_
            refine x_callV0 M TB hAA mv_X2_leastEver kw_213 dL_isTill_140 (c_leastEver hO (show w < 12 by omega)) rfl wl_X rfl rfl ⟨by decide, by decide⟩ ⟨by decide, by decide⟩ (Nat.le_of_ble_eq_true rfl) ?_
            rw [show em (min (lnow X w (X 0 0)) (X 11 w)) = nI (lnow X w (X 0 0)) from by rw [show min (lnow X w (X 0 0)) (X 11 w) = lnow X w (X 0 0) by omega]; exact e2]
            refine x_iload8 M dL_isTill_143 ?_
            refine n_if_ge (tgt := 153) M (by first | omega | exact hB _ _ | exact hC _ _) dL_isTill_145 (by decide) (fun q145 => ?_) (fun q145 => q145.elim)
            refine x_iload10 M dL_isTill_153 ?_
            refine x_if_lt (tgt := 165) M dL_isTill_155 (by decide) (fun q155 => ?_) (fun q155 => absurd (by decide) q155)
            refine x_iload8 M dL_isTill_165 ?_
            refine x_goto (tgt := 172) M dL_isTill_167 (by decide) ?_
            refine n_icmp_ne (tgt := 179) M (by first | omega | exact hB _ _ | exact hC _ _) (by first | omega | exact hB _ _ | exact hC _ _) dL_isTill_172 (by decide) (fun q172 => absurd (by omega) q172) (fun q172 => ?_)
            refine x_iconst (v := nI 1) M dL_isTill_175 (by decide +kernel) ?_
            refine x_goto (tgt := 180) M dL_isTill_176 (by decide) ?_
            refine x_istore3 M dL_isTill_180 ?_
            refine n_inc6 M dL_isTill_181 ?_
            refine x_goto (tgt := 11) M dL_isTill_184 (by decide) ?_
            exact ih (w + 1) _ _ _ _ _ (by omega)
          · skip
            refine x_aload1 M dL_isTill_115 ?_
            refine x_bipush (v := nI 15) M dL_isTill_116 (by decide +kernel) ?_
            refine x_iload6 M dL_isTill_118 ?_
            refine n_add M dL_isTill_120 ?_
            refine aCv M TB hce (by omega) dL_isTill_121 ?_
            refine x_iconst (v := nI 1) M dL_isTill_122 (by decide +kernel) ?_
            refine x_isub M dL_isTill_123 (em_ew hx) ?_
            rw [x2]
            refine x_istore10 M dL_isTill_124 ?_
            refine x_aload0 M dL_isTill_126 ?_
            refine x_iload6 M dL_isTill_127 ?_
            refine x_callV0 M TB hAA mv_X2_asked kw_126 dL_isTill_129 (c_asked hO (show w < 12 by omega)) rfl wl_X rfl rfl ⟨by decide, by decide⟩ ⟨by decide, by decide⟩ (Nat.le_of_ble_eq_true rfl) ?_
            refine x_iload9 M dL_isTill_132 ?_
            refine n_icmp_ne (tgt := 179) M (by first | omega | exact hB _ _ | exact hC _ _) (by first | omega | exact hB _ _ | exact hC _ _) dL_isTill_134 (by decide) (fun q134 => absurd (by omega) q134) (fun q134 => ?_)
            refine x_aload0 M dL_isTill_137 ?_
            refine x_iload6 M dL_isTill_138 ?_
            refine x_callV0 M TB hAA mv_X2_leastEver kw_213 dL_isTill_140 (c_leastEver hO (show w < 12 by omega)) rfl wl_X rfl rfl ⟨by decide, by decide⟩ ⟨by decide, by decide⟩ (Nat.le_of_ble_eq_true rfl) ?_
            rw [show em (min (lnow X w (X 0 0)) (X 11 w)) = nI (min (lnow X w (X 0 0)) (X 11 w)) from em_n (by omega)]
            refine x_iload8 M dL_isTill_143 ?_
            refine n_if_ge (tgt := 153) M (by first | omega | exact hB _ _ | exact hC _ _) dL_isTill_145 (by decide) (fun q145 => ?_) (fun q145 => q145.elim)
            refine x_iload10 M dL_isTill_153 ?_
            refine n_if_lt (tgt := 165) M (by first | omega | exact hB _ _ | exact hC _ _) dL_isTill_155 (by decide) (fun q155 => q155.elim) (fun q155 => ?_)
            refine x_iload8 M dL_isTill_158 ?_
            refine x_iload10 M dL_isTill_160 ?_
            refine n_icmp_ge (tgt := 170) M (by first | omega | exact hB _ _ | exact hC _ _) (by first | omega | exact hB _ _ | exact hC _ _) dL_isTill_162 (by decide) (fun q162 => ?_) (fun q162 => ?_)
            · refine x_iload10 M dL_isTill_170 ?_
              refine n_icmp_ne (tgt := 179) M (by first | omega | exact hB _ _ | exact hC _ _) (by first | omega | exact hB _ _ | exact hC _ _) dL_isTill_172 (by decide) (fun q172 => absurd (by omega) q172) (fun q172 => ?_)
              refine x_iconst (v := nI 1) M dL_isTill_175 (by decide +kernel) ?_
              refine x_goto (tgt := 180) M dL_isTill_176 (by decide) ?_
              refine x_istore3 M dL_isTill_180 ?_
              refine n_inc6 M dL_isTill_181 ?_
              refine x_goto (tgt := 11) M dL_isTill_184 (by decide) ?_
              exact ih (w + 1) _ _ _ _ _ (by omega)
            · refine x_iload8 M dL_isTill_165 ?_
              refine x_goto (tgt := 172) M dL_isTill_167 (by decide) ?_
              refine n_icmp_ne (tgt := 179) M (by first | omega | exact hB _ _ | exact hC _ _) (by first | omega | exact hB _ _ | exact hC _ _) dL_isTill_172 (by decide) (fun q172 => absurd (by omega) q172) (fun q172 => ?_)
              refine x_iconst (v := nI 1) M dL_isTill_175 (by decide +kernel) ?_
              refine x_goto (tgt := 180) M dL_isTill_176 (by decide) ?_
              refine x_istore3 M dL_isTill_180 ?_
              refine n_inc6 M dL_isTill_181 ?_
              refine x_goto (tgt := 11) M dL_isTill_184 (by decide) ?_
              exact ih (w + 1) _ _ _ _ _ (by omega)
        have J : ∀ n9, n9 = min (X 1 w) (lnow X w (X 0 0)) → x_X p l e rm_L_isTill s m args below meth c D A 12 0 0 (MQ below (x_Qc D A (some (.int (nI 1))) (wl kc ad X (cS X) (hS X) ex)) args s rm_L_isTill.cells rm_L_isTill.slots A) (wl kc ad X (cS X) (hS X) ex) 57 [some (.ref (ad 0)), some (.ref (ad 6)), some (.ref (ad 7)), some (.int (nI 1)), some (.int (lie X 0)), some (.int (nI 0)), some (.int (nI w)), some (.int (nI (X 1 w))), some (.int (nI (lnow X w (X 0 0)))), l9, l10, l11] [.int (nI n9)] := by
          intro n9 hn9
          rw [show n9 = min (min (X 1 w) (lnow X w (X 0 0))) (lhr X w 0) from by rw [show lhr X w 0 = 10000 from rfl]; omega]
          refine x_istore9 M dL_isTill_57 ?_
          refine x_iconst (v := nI 0) M dL_isTill_59 (by decide +kernel) ?_
          refine x_istore10 M dL_isTill_60 ?_
          exact loopK _ hexit 60 0 _ rfl
        refine x_iload6 M dL_isTill_11 ?_
        refine x_iconst (v := nI 3) M dL_isTill_13 (by decide +kernel) ?_
        refine n_icmp_ge (tgt := 187) M (by first | omega | exact hB _ _ | exact hC _ _) (by first | omega | exact hB _ _ | exact hC _ _) dL_isTill_14 (by decide) (fun q14 => absurd q14 (by omega)) (fun q14 => ?_)
        refine x_iload3 M dL_isTill_17 ?_
        refine n_if_eq (tgt := 187) M (by first | omega | exact hB _ _ | exact hC _ _) dL_isTill_18 (by decide) (fun q18 => absurd q18 (by decide)) (fun q18 => ?_)
        refine x_aload0 M dL_isTill_21 ?_
        refine x_iload6 M dL_isTill_22 ?_
        refine x_callV0 M TB hAA mv_X2_price kw_259 dL_isTill_24 (c_price (X := X) (show w < 12 by omega)) rfl wl_X rfl rfl ⟨by decide, by decide⟩ ⟨by decide, by decide⟩ (Nat.le_of_ble_eq_true rfl) ?_
        refine x_istore7 M dL_isTill_27 ?_
        refine x_aload0 M dL_isTill_29 ?_
        refine x_aload1 M dL_isTill_30 ?_
        refine x_iload6 M dL_isTill_31 ?_
        refine x_callS0 M TB hAA mv_L_leastNow kw_373 dL_isTill_33 (l_leastNow hO hc1 (fun i hi => cS_w X (by omega)) (show w < 12 by omega)) rfl ⟨by decide, by decide⟩ ⟨by decide, by decide⟩ (Nat.le_of_ble_eq_true rfl) ?_
        rw [e2]
        refine x_istore8 M dL_isTill_36 ?_
        refine x_iload8 M dL_isTill_38 ?_
        refine n_if_lt (tgt := 55) M (by first | omega | exact hB _ _ | exact hC _ _) dL_isTill_40 (by decide) (fun q40 => q40.elim) (fun q40 => ?_)
        refine x_iload8 M dL_isTill_43 ?_
        refine x_iload7 M dL_isTill_45 ?_
        refine n_icmp_ge (tgt := 55) M (by first | omega | exact hB _ _ | exact hC _ _) (by first | omega | exact hB _ _ | exact hC _ _) dL_isTill_47 (by decide) (fun q47 => ?_) (fun q47 => ?_)
        · refine x_iload7 M dL_isTill_55 ?_
          exact J _ (by omega)
        · refine x_iload8 M dL_isTill_50 ?_
          refine x_goto (tgt := 57) M dL_isTill_52 (by decide) ?_
          exact J _ (by omega)
  refine x_iconst (v := nI 1) M dL_isTill_0 (by decide +kernel) ?_
  refine x_istore3 M dL_isTill_1 ?_
  refine x_iconst (v := nI 0) M dL_isTill_2 (by decide +kernel) ?_
  refine x_istore4 M dL_isTill_3 ?_
  refine x_iconst (v := nI 0) M dL_isTill_5 (by decide +kernel) ?_
  refine x_istore5 M dL_isTill_6 ?_
  refine x_iconst (v := nI 0) M dL_isTill_8 (by decide +kernel) ?_
  refine x_istore6 M dL_isTill_9 ?_
  exact loopW 3 0 _ _ _ _ _ rfl
end XM
