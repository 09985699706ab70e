/-! THE LAW's METHODS: minute -/
section XM
variable {l : Launch} {D : va_G} {kc : Nat → ClassId} {A : Nat → Prop} {ad : Nat → Nat} {X B : St} {hf : Nat → Int64} {ex : va_W}
theorem mv_L_minute : x_MS yL_minute cL_minute 17 (some FieldType.boolean) 3 := ⟨kw_328, kw_8, ⟨by decide +kernel, by decide +kernel⟩, by decide +kernel, kw_327⟩
abbrev rm_L_minute : Room := { frames := 5, cells := 4, slots := 48, locals := 114 }
set_option maxRecDepth 20000 in
set_option maxHeartbeats 2000000 in
theorem l_minute {t m : Nat} (hI : Iv X t m) (ht : t < 10000) : x_Ret l D kc A yL_minute cL_minute 17 (some FieldType.boolean) rm_L_minute [.ref (ad 0), .ref (ad 6), .ref (ad 7)] (wl kc ad X (cS X) (hS X) []) (some (.int (nI 1))) (wl kc ad (mnt X).1 (cS (mnt X).1) (hS (mnt X).1) []) := by
  refine x_ret_of RL (by decide +kernel) rfl [some (.ref (ad 0)), some (.ref (ad 6)), some (.ref (ad 7)), none, none, none, none, none, none, none, none, none, none, none, none, none, none] (Nat.le_of_ble_eq_true rfl) rfl rfl ?_
  intro p e s m args below meth c M hr hlk hnm TB hAA
  have hO := hI.1
  have hn := hO.n
  have ht1 := hI.2.1
  have hOZ : Ok (mnt X).1 := Ok_mnt hO (by omega)
  have hB : ∀ r i, X r i < 2 ^ 31 := fun r i => Nat.lt_trans (hO.bd r i) (by decide)
  have hC : ∀ r i, (mnt X).1 r i < 2 ^ 31 := fun r i => Nat.lt_trans (hOZ.bd r i) (by decide)
  have e0 := mnt_0 X
  have hsn := mnt_2 X
  have hb1 := bel_1 (s1 X) (X 0 0)
  have hb2 := bel_1 (s2 X) (X 0 0)
  have hb3 := bel_cnt X (X 0 0)
  obtain ⟨hd1, hd2⟩ := cnt_dn hO (X 0 0) (Nat.le_refl _)
  have hcl := cnt_le X (X 0 0)
  have hcl2 := cnt_le (mnt X).1 (X 0 0)
  have hac := acs_le hO (X 0 0) (Nat.le_refl _)
  have hf : ∀ w, (fun w => ew (lnow (mnt X).1 w (X 0 0))) w ≤ 10000 := fun w => ew_le (lnow_le _ _ _)
  have l1 : ∀ (a0 a1 a2 a3 : Nat), x_X p l e rm_L_minute s m args below meth c D A 17 4 48 (MQ below (x_Qc D A (some (.int (nI 1))) (wl kc ad (mnt X).1 (cS (mnt X).1) (hS (mnt X).1) [])) args s rm_L_minute.cells rm_L_minute.slots A) (wl kc ad X (cS X) (hS X) (exM kc a0 a1 a2 a3 X 0 0 0 0)) 26 [some (.ref (ad 0)), some (.ref (ad 6)), some (.ref (ad 7)), some (.ref a0), some (.ref a1), some (.ref a2), some (.ref a3), some (.int (nI 0)), none, none, none, none, none, none, none, none, none] [] := by
    intro a0 a1 a2 a3
    have loop3 : ∀ (d w : Nat) (l14 l15 l16 : Option Value), w + d = 3 → x_X p l e rm_L_minute s m args below meth c D A 17 4 48 (MQ below (x_Qc D A (some (.int (nI 1))) (wl kc ad (mnt X).1 (cS (mnt X).1) (hS (mnt X).1) [])) args s rm_L_minute.cells rm_L_minute.slots A) (wl kc ad (mnt X).1 (cM X w) (hS X) (exM kc a0 a1 a2 a3 X (X 0 0) (X 0 0) (X 0 0) (X 0 0))) 422 [some (.ref (ad 0)), some (.ref (ad 6)), some (.ref (ad 7)), some (.ref a0), some (.ref a1), some (.ref a2), some (.ref a3), some (.int (nI (cnt X (X 0 0)))), some (.int (nI (mnt X).2)), some (.int (nI (acs X (X 0 0)))), some (.int (nI 1)), some (.long (lN (psum (fun w => ew (lnow (mnt X).1 w (X 0 0))) w))), none, some (.int (nI w)), l14, l15, l16] [] := by
      intro d
      induction d with
      | zero =>
        intro w l14 l15 l16 hw
        obtain rfl : w = 3 := by omega
        have hc0 : cM X 3 0 0 = X 0 1 + 1 := rfl
        have hc0b : cS (mnt X).1 0 0 = X 0 1 + 1 := mnt_t X
        refine x_iload13 M dL_minute_422 ?_
        refine x_iconst (v := nI 3) M dL_minute_424 (by decide +kernel) ?_
        refine n_icmp_ge (tgt := 509) M (by first | omega | exact hB _ _ | exact hC _ _) (by first | omega | exact hB _ _ | exact hC _ _) dL_minute_425 (by decide) (fun q425 => ?_) (fun q425 => absurd q425 (by omega))
        refine x_aload2 M dL_minute_509 ?_
        refine x_aload1 M dL_minute_510 ?_
        refine x_iconst (v := nI 0) M dL_minute_511 (by decide +kernel) ?_
        refine aCv M TB hc0 (by omega) dL_minute_512 ?_
        refine x_bipush (v := nI 60) M dL_minute_513 (by decide +kernel) ?_
        refine n_rem M (by first | omega | exact hB _ _ | exact hC _ _) (by omega) (by first | omega | exact hB _ _ | exact hC _ _) dL_minute_515 ?_
        refine x_lload11 M dL_minute_516 ?_
        refine sH M TB (by omega) dL_minute_518 ?_
        rw [cM_3, hS_m]
        refine x_iload10 M dL_minute_519 ?_
        refine n_if_eq (tgt := 545) M (by first | omega | exact hB _ _ | exact hC _ _) dL_minute_521 (by decide) (fun q521 => absurd q521 (by decide)) (fun q521 => ?_)
        refine x_iload9 M dL_minute_524 ?_
        refine x_iload8 M dL_minute_526 ?_
        refine n_icmp_gt (tgt := 545) M (by first | omega | exact hB _ _ | exact hC _ _) (by first | omega | exact hB _ _ | exact hC _ _) dL_minute_528 (by decide) (fun q528 => absurd q528 (by omega)) (fun q528 => ?_)
        refine x_aload0 M dL_minute_531 ?_
        refine x_callV0 M TB hAA mv_X2_time kw_106 dL_minute_532 c_time rfl wl_X rfl rfl ⟨by decide, by decide⟩ ⟨by decide, by decide⟩ (Nat.le_of_ble_eq_true rfl) ?_
        rw [mnt_t]
        refine x_aload1 M dL_minute_535 ?_
        refine x_iconst (v := nI 0) M dL_minute_536 (by decide +kernel) ?_
        refine aCv M TB hc0b (by omega) dL_minute_537 ?_
        refine n_icmp_ne (tgt := 545) M (by first | omega | exact hB _ _ | exact hC _ _) (by first | omega | exact hB _ _ | exact hC _ _) dL_minute_538 (by decide) (fun q538 => absurd rfl q538) (fun q538 => ?_)
        refine x_iconst (v := nI 1) M dL_minute_541 (by decide +kernel) ?_
        refine x_goto (tgt := 546) M dL_minute_542 (by decide) ?_
        refine x_drop ?_
        exact x_zret M hr hlk dL_minute_546 ⟨by decide, by decide⟩ (Or.inr rfl) rfl rfl
      | succ d ih =>
        intro w l14 l15 l16 hw
        have hw3 : w < 3 := by omega
        have hc1 : cM X w 0 1 = (mnt X).1 0 0 := (cM_r X (by omega) (by decide)).trans e0.symm
        have hcw : ∀ i, i < (mnt X).1 0 0 → cM X w 0 (3 + i) = (mnt X).1 2 i := fun i hi => by rw [mnt_w, cM_r X (by omega) (by omega)]; exact cS_w X (by omega)
        have hce : cM X w 0 (15 + w) = ew (X 11 w) := by rw [cM_r X (by omega) (by omega)]; exact cS_e X hw3
        have hv := lnow_le (mnt X).1 w (X 0 0)
        have hx := hO.e w
        have hev := ew_le hv
        have hex := ew_le hx
        by_cases e11 : X 11 w = 10000
        · have e12 : ew (X 11 w) = 0 := if_pos e11
          refine x_iload13 M dL_minute_422 ?_
          refine x_iconst (v := nI 3) M dL_minute_424 (by decide +kernel) ?_
          refine n_icmp_ge (tgt := 509) M (by first | omega | exact hB _ _ | exact hC _ _) (by first | omega | exact hB _ _ | exact hC _ _) dL_minute_425 (by decide) (fun q425 => absurd q425 (by omega)) (fun q425 => ?_)
          refine x_aload0 M dL_minute_428 ?_
          refine x_aload1 M dL_minute_429 ?_
          refine x_iload13 M dL_minute_430 ?_
          refine x_callS0 M TB hAA mv_L_leastNow kw_373 dL_minute_432 (l_leastNow (X := (mnt X).1) (B := cM X w) hOZ hc1 hcw (show w < 12 by omega)) rfl ⟨by decide, by decide⟩ ⟨by decide, by decide⟩ (Nat.le_of_ble_eq_true rfl) ?_
          rw [mnt_0]
          refine x_istore14 M dL_minute_435 ?_
          refine x_lload11 M dL_minute_437 ?_
          refine x_iload14 M dL_minute_439 ?_
          refine x_iconst (v := nI 1) M dL_minute_441 (by decide +kernel) ?_
          refine x_iadd M dL_minute_442 ew_em ?_
          refine x_i2l M dL_minute_443 ?_
          rw [nI_l (show ew (lnow (mnt X).1 w (X 0 0)) < 2 ^ 31 by omega)]
          refine x_bipush (v := nI 14) M dL_minute_444 (by decide +kernel) ?_
          refine x_iload13 M dL_minute_446 ?_
          refine n_mul M dL_minute_448 ?_
          refine x_lshl M dL_minute_449 rfl ?_
          refine x_lor M dL_minute_450 (pk_push (f := (fun w => ew (lnow (mnt X).1 w (X 0 0)))) hf hw3) ?_
          refine x_lstore11 M dL_minute_451 ?_
          refine x_aload1 M dL_minute_453 ?_
          refine x_bipush (v := nI 15) M dL_minute_454 (by decide +kernel) ?_
          refine x_iload13 M dL_minute_456 ?_
          refine n_add M dL_minute_458 ?_
          refine x_aload1 M dL_minute_459 ?_
          refine x_bipush (v := nI 15) M dL_minute_460 (by decide +kernel) ?_
          refine x_iload13 M dL_minute_462 ?_
          refine n_add M dL_minute_464 ?_
          refine aCv M TB hce (by omega) dL_minute_465 ?_
          refine n_if_eq (tgt := 488) M (by first | omega | exact hB _ _ | exact hC _ _) dL_minute_466 (by decide) (fun q466 => ?_) (fun q466 => absurd e12 q466)
          refine x_iload14 M dL_minute_488 ?_
          refine x_iconst (v := nI 1) M dL_minute_490 (by decide +kernel) ?_
          refine x_iadd M dL_minute_491 ew_em ?_
          refine x_goto (tgt := 502) M dL_minute_492 (by decide) ?_
          refine sC M TB (by omega) dL_minute_502 ?_
          refine n_inc13 M dL_minute_503 ?_
          refine x_goto (tgt := 422) M dL_minute_506 (by decide) ?_
          refine x_ws (congrArg (fun q => wl kc ad (mnt X).1 q (hS X) (exM kc a0 a1 a2 a3 X (X 0 0) (X 0 0) (X 0 0) (X 0 0))) (show up (cM X w) 0 (15 + w) (ew (lnow (mnt X).1 w (X 0 0))) = cM X (w + 1) from by rw [show ew (lnow (mnt X).1 w (X 0 0)) = ew ((mnt X).1 11 w) from by rw [mnt_11 X (show w < 12 by omega)]; exact congrArg ew (by omega)]; exact cM_up X w)) ?_
          exact ih (w + 1) _ _ _ (by omega)
        · have e12 : ew (X 11 w) = X 11 w + 1 := if_neg e11
          rcases em_c hv with ⟨e1, e2⟩ | ⟨e1, e2⟩
          · skip
            refine x_iload13 M dL_minute_422 ?_
            refine x_iconst (v := nI 3) M dL_minute_424 (by decide +kernel) ?_
            refine n_icmp_ge (tgt := 509) M (by first | omega | exact hB _ _ | exact hC _ _) (by first | omega | exact hB _ _ | exact hC _ _) dL_minute_425 (by decide) (fun q425 => absurd q425 (by omega)) (fun q425 => ?_)
            refine x_aload0 M dL_minute_428 ?_
            refine x_aload1 M dL_minute_429 ?_
            refine x_iload13 M dL_minute_430 ?_
            refine x_callS0 M TB hAA mv_L_leastNow kw_373 dL_minute_432 (l_leastNow (X := (mnt X).1) (B := cM X w) hOZ hc1 hcw (show w < 12 by omega)) rfl ⟨by decide, by decide⟩ ⟨by decide, by decide⟩ (Nat.le_of_ble_eq_true rfl) ?_
            rw [mnt_0]
            refine x_istore14 M dL_minute_435 ?_
            refine x_lload11 M dL_minute_437 ?_
            refine x_iload14 M dL_minute_439 ?_
            refine x_iconst (v := nI 1) M dL_minute_441 (by decide +kernel) ?_
            refine x_iadd M dL_minute_442 ew_em ?_
            refine x_i2l M dL_minute_443 ?_
            rw [nI_l (show ew (lnow (mnt X).1 w (X 0 0)) < 2 ^ 31 by omega)]
            refine x_bipush (v := nI 14) M dL_minute_444 (by decide +kernel) ?_
            refine x_iload13 M dL_minute_446 ?_
            refine n_mul M dL_minute_448 ?_
            refine x_lshl M dL_minute_449 rfl ?_
            refine x_lor M dL_minute_450 (pk_push (f := (fun w => ew (lnow (mnt X).1 w (X 0 0)))) hf hw3) ?_
            refine x_lstore11 M dL_minute_451 ?_
            refine x_aload1 M dL_minute_453 ?_
            refine x_bipush (v := nI 15) M dL_minute_454 (by decide +kernel) ?_
            refine x_iload13 M dL_minute_456 ?_
            refine n_add M dL_minute_458 ?_
            refine x_aload1 M dL_minute_459 ?_
            refine x_bipush (v := nI 15) M dL_minute_460 (by decide +kernel) ?_
            refine x_iload13 M dL_minute_462 ?_
            refine n_add M dL_minute_464 ?_
            refine aCv M TB hce (by omega) dL_minute_465 ?_
            refine n_if_eq (tgt := 488) M (by first | omega | exact hB _ _ | exact hC _ _) dL_minute_466 (by decide) (fun q466 => absurd q466 (by omega)) (fun q466 => ?_)
            refine x_iload14 M dL_minute_469 ?_
            refine x_if_lt (tgt := 495) M dL_minute_471 (by decide) (fun q471 => ?_) (fun q471 => absurd (by rw [e2]; decide) q471)
            refine x_aload1 M dL_minute_495 ?_
            refine x_bipush (v := nI 15) M dL_minute_496 (by decide +kernel) ?_
            refine x_iload13 M dL_minute_498 ?_
            refine n_add M dL_minute_500 ?_
            refine aCv M TB hce (by omega) dL_minute_501 ?_
            refine sC M TB (by omega) dL_minute_502 ?_
            refine n_inc13 M dL_minute_503 ?_
            refine x_goto (tgt := 422) M dL_minute_506 (by decide) ?_
            refine x_ws (congrArg (fun q => wl kc ad (mnt X).1 q (hS X) (exM kc a0 a1 a2 a3 X (X 0 0) (X 0 0) (X 0 0) (X 0 0))) (show up (cM X w) 0 (15 + w) (ew (X 11 w)) = cM X (w + 1) from by rw [show ew (X 11 w) = ew ((mnt X).1 11 w) from by rw [mnt_11 X (show w < 12 by omega)]; exact congrArg ew (by omega)]; exact cM_up X w)) ?_
            exact ih (w + 1) _ _ _ (by omega)
          · have e13 : ew (lnow (mnt X).1 w (X 0 0)) = lnow (mnt X).1 w (X 0 0) + 1 := if_neg (by omega)
            refine x_iload13 M dL_minute_422 ?_
            refine x_iconst (v := nI 3) M dL_minute_424 (by decide +kernel) ?_
            refine n_icmp_ge (tgt := 509) M (by first | omega | exact hB _ _ | exact hC _ _) (by first | omega | exact hB _ _ | exact hC _ _) dL_minute_425 (by decide) (fun q425 => absurd q425 (by omega)) (fun q425 => ?_)
            refine x_aload0 M dL_minute_428 ?_
            refine x_aload1 M dL_minute_429 ?_
            refine x_iload13 M dL_minute_430 ?_
            refine x_callS0 M TB hAA mv_L_leastNow kw_373 dL_minute_432 (l_leastNow (X := (mnt X).1) (B := cM X w) hOZ hc1 hcw (show w < 12 by omega)) rfl ⟨by decide, by decide⟩ ⟨by decide, by decide⟩ (Nat.le_of_ble_eq_true rfl) ?_
            rw [mnt_0]
            refine x_istore14 M dL_minute_435 ?_
            refine x_lload11 M dL_minute_437 ?_
            refine x_iload14 M dL_minute_439 ?_
            refine x_iconst (v := nI 1) M dL_minute_441 (by decide +kernel) ?_
            refine x_iadd M dL_minute_442 ew_em ?_
            refine x_i2l M dL_minute_443 ?_
            rw [nI_l (show ew (lnow (mnt X).1 w (X 0 0)) < 2 ^ 31 by omega)]
            refine x_bipush (v := nI 14) M dL_minute_444 (by decide +kernel) ?_
            refine x_iload13 M dL_minute_446 ?_
            refine n_mul M dL_minute_448 ?_
            refine x_lshl M dL_minute_449 rfl ?_
            refine x_lor M dL_minute_450 (pk_push (f := (fun w => ew (lnow (mnt X).1 w (X 0 0)))) hf hw3) ?_
            refine x_lstore11 M dL_minute_451 ?_
            refine x_aload1 M dL_minute_453 ?_
            refine x_bipush (v := nI 15) M dL_minute_454 (by decide +kernel) ?_
            refine x_iload13 M dL_minute_456 ?_
            refine n_add M dL_minute_458 ?_
            refine x_aload1 M dL_minute_459 ?_
            refine x_bipush (v := nI 15) M dL_minute_460 (by decide +kernel) ?_
            refine x_iload13 M dL_minute_462 ?_
            refine n_add M dL_minute_464 ?_
            refine aCv M TB hce (by omega) dL_minute_465 ?_
            refine n_if_eq (tgt := 488) M (by first | omega | exact hB _ _ | exact hC _ _) dL_minute_466 (by decide) (fun q466 => absurd q466 (by omega)) (fun q466 => ?_)
            refine x_iload14 M dL_minute_469 ?_
            refine x_if_lt (tgt := 495) M dL_minute_471 (by decide) (fun q471 => absurd q471 (by rw [e2]; exact nI_pos (by omega))) (fun q471 => ?_)
            refine x_iload14 M dL_minute_474 ?_
            refine x_iconst (v := nI 1) M dL_minute_476 (by decide +kernel) ?_
            refine x_iadd M dL_minute_477 ew_em ?_
            refine x_aload1 M dL_minute_478 ?_
            refine x_bipush (v := nI 15) M dL_minute_479 (by decide +kernel) ?_
            refine x_iload13 M dL_minute_481 ?_
            refine n_add M dL_minute_483 ?_
            refine aCv M TB hce (by omega) dL_minute_484 ?_
            refine n_icmp_ge (tgt := 495) M (by first | omega | exact hB _ _ | exact hC _ _) (by first | omega | exact hB _ _ | exact hC _ _) dL_minute_485 (by decide) (fun q485 => ?_) (fun q485 => ?_)
            · refine x_aload1 M dL_minute_495 ?_
              refine x_bipush (v := nI 15) M dL_minute_496 (by decide +kernel) ?_
              refine x_iload13 M dL_minute_498 ?_
              refine n_add M dL_minute_500 ?_
              refine aCv M TB hce (by omega) dL_minute_501 ?_
              refine sC M TB (by omega) dL_minute_502 ?_
              refine n_inc13 M dL_minute_503 ?_
              refine x_goto (tgt := 422) M dL_minute_506 (by decide) ?_
              refine x_ws (congrArg (fun q => wl kc ad (mnt X).1 q (hS X) (exM kc a0 a1 a2 a3 X (X 0 0) (X 0 0) (X 0 0) (X 0 0))) (show up (cM X w) 0 (15 + w) (ew (X 11 w)) = cM X (w + 1) from by rw [show ew (X 11 w) = ew ((mnt X).1 11 w) from by rw [mnt_11 X (show w < 12 by omega)]; exact congrArg ew (by omega)]; exact cM_up X w)) ?_
              exact ih (w + 1) _ _ _ (by omega)
            · refine x_iload14 M dL_minute_488 ?_
              refine x_iconst (v := nI 1) M dL_minute_490 (by decide +kernel) ?_
              refine x_iadd M dL_minute_491 ew_em ?_
              refine x_goto (tgt := 502) M dL_minute_492 (by decide) ?_
              refine sC M TB (by omega) dL_minute_502 ?_
              refine n_inc13 M dL_minute_503 ?_
              refine x_goto (tgt := 422) M dL_minute_506 (by decide) ?_
              refine x_ws (congrArg (fun q => wl kc ad (mnt X).1 q (hS X) (exM kc a0 a1 a2 a3 X (X 0 0) (X 0 0) (X 0 0) (X 0 0))) (show up (cM X w) 0 (15 + w) (ew (lnow (mnt X).1 w (X 0 0))) = cM X (w + 1) from by rw [show ew (lnow (mnt X).1 w (X 0 0)) = ew ((mnt X).1 11 w) from by rw [mnt_11 X (show w < 12 by omega)]; exact congrArg ew (by omega)]; exact cM_up X w)) ?_
              exact ih (w + 1) _ _ _ (by omega)
    have loop2 : ∀ (d k : Nat) (l12 l13 l14 l15 l16 : Option Value), k + d = X 0 0 → x_X p l e rm_L_minute s m args below meth c D A 17 4 48 (MQ below (x_Qc D A (some (.int (nI 1))) (wl kc ad (mnt X).1 (cS (mnt X).1) (hS (mnt X).1) [])) args s rm_L_minute.cells rm_L_minute.slots A) (wl kc ad (mnt X).1 (cM X 0) (hS X) (exM kc a0 a1 a2 a3 X (X 0 0) (X 0 0) (X 0 0) (X 0 0))) 155 [some (.ref (ad 0)), some (.ref (ad 6)), some (.ref (ad 7)), some (.ref a0), some (.ref a1), some (.ref a2), some (.ref a3), some (.int (nI (cnt X (X 0 0)))), some (.int (nI (mnt X).2)), some (.int (nI (acs X k))), some (.int (nI 1)), some (.int (nI k)), l12, l13, l14, l15, l16] [] := by
      intro d
      induction d with
      | zero =>
        intro k l12 l13 l14 l15 l16 hk
        obtain rfl : k = X 0 0 := by omega
        have hc1 : cM X 0 0 1 = X 0 0 := rfl
        refine x_iload11 M dL_minute_155 ?_
        refine x_aload1 M dL_minute_157 ?_
        refine x_iconst (v := nI 1) M dL_minute_158 (by decide +kernel) ?_
        refine aCv M TB hc1 (by omega) dL_minute_159 ?_
        refine n_icmp_ge (tgt := 416) M (by first | omega | exact hB _ _ | exact hC _ _) (by first | omega | exact hB _ _ | exact hC _ _) dL_minute_160 (by decide) (fun q160 => ?_) (fun q160 => absurd q160 (by omega))
        refine x_lconst (v := lN 0) M dL_minute_416 rfl ?_
        refine x_lstore11 M dL_minute_417 ?_
        refine x_iconst (v := nI 0) M dL_minute_419 (by decide +kernel) ?_
        refine x_istore13 M dL_minute_420 ?_
        exact loop3 3 0 _ _ _ rfl
      | succ d ih =>
        intro k l12 l13 l14 l15 l16 hk
        have hk2 : k < X 0 0 := by omega
        have hk3 : k < (mnt X).1 0 0 := by omega
        have hc1 : cM X 0 0 1 = X 0 0 := rfl
        have hcw : cM X 0 0 (3 + k) = X 2 k := by rw [cM_r X (by omega) (by omega)]; exact cS_w X (by omega)
        have hgk := hO.g k
        have hw2 := hO.w k
        have hd4 := digs_4 (X 3 k) ((mnt X).1 3 k)
        have hB5 := hO.bd 5 k
        have hea : acs X (k + 1) = acs X k + act X k := rfl
        have hak := acs_le hO k (by omega)
        have hb4 := bel_1 (s1 X) k
        have hb5 := bel_1 (s2 X) k
        obtain ⟨hcase, h8, -⟩ := mnt_lab hO hk2
        rcases hcase with ⟨g0, g4, g5⟩ | ⟨g0, g20, go, gp, g9, g4, g5⟩ | ⟨g0, g20, go, gp, g9, g4, g5⟩
        · rcases h8 with h8 | ⟨h8, h8o, h820⟩
          · have ha : act X k = 0 := if_neg (by omega)
            refine x_iload11 M dL_minute_155 ?_
            refine x_aload1 M dL_minute_157 ?_
            refine x_iconst (v := nI 1) M dL_minute_158 (by decide +kernel) ?_
            refine aCv M TB hc1 (by omega) dL_minute_159 ?_
            refine n_icmp_ge (tgt := 416) M (by first | omega | exact hB _ _ | exact hC _ _) (by first | omega | exact hB _ _ | exact hC _ _) dL_minute_160 (by decide) (fun q160 => absurd q160 (by omega)) (fun q160 => ?_)
            refine x_iload10 M dL_minute_163 ?_
            refine n_if_eq (tgt := 416) M (by first | omega | exact hB _ _ | exact hC _ _) dL_minute_165 (by decide) (fun q165 => absurd q165 (by decide)) (fun q165 => ?_)
            refine x_aload0 M dL_minute_168 ?_
            refine x_iload11 M dL_minute_169 ?_
            refine x_callV0 M TB hAA mv_X2_shown kw_250 dL_minute_171 (c_shown (X := (mnt X).1) hOZ hk3) rfl wl_X rfl rfl ⟨by decide, by decide⟩ ⟨by decide, by decide⟩ (Nat.le_of_ble_eq_true rfl) ?_
            refine x_istore12 M rfl dL_minute_174 ?_
            refine x_aload3 M dL_minute_176 ?_
            refine x_iload11 M dL_minute_177 ?_
            refine eR0 M TB (by omega) (by omega) dL_minute_179 ?_
            refine x_iload12 M dL_minute_180 ?_
            refine x_callS0 M TB hAA mv_L_changed kw_370 dL_minute_182 (l_changed (hO.s k) (hOZ.s k)) rfl ⟨by decide, by decide⟩ ⟨by decide, by decide⟩ (Nat.le_of_ble_eq_true rfl) ?_
            refine x_istore13 M dL_minute_185 ?_
            refine x_aload4 M dL_minute_187 ?_
            refine x_iload11 M dL_minute_189 ?_
            refine eR1 M TB (by omega) (by omega) dL_minute_191 ?_
            refine x_iload13 M dL_minute_192 ?_
            refine n_add M dL_minute_194 ?_
            refine x_bipush (v := nI 9) M dL_minute_195 (by decide +kernel) ?_
            refine n_icmp_le (tgt := 204) M (by first | omega | exact hB _ _ | exact hC _ _) (by first | omega | exact hB _ _ | exact hC _ _) dL_minute_197 (by decide) (fun q197 => ?_) (fun q197 => absurd q197 (by omega))
            refine x_iconst (v := nI 0) M dL_minute_204 (by decide +kernel) ?_
            refine x_istore14 M dL_minute_205 ?_
            refine x_iload13 M dL_minute_207 ?_
            refine n_if_ne (tgt := 216) M (by first | omega | exact hB _ _ | exact hC _ _) dL_minute_209 (by decide) (fun q209 => absurd g0 q209) (fun q209 => ?_)
            refine x_iconst (v := nI 0) M dL_minute_212 (by decide +kernel) ?_
            refine x_goto (tgt := 228) M dL_minute_213 (by decide) ?_
            refine x_istore15 M dL_minute_228 ?_
            refine x_aload5 M dL_minute_230 ?_
            refine x_iload11 M dL_minute_232 ?_
            refine eR2 M TB (by omega) (by omega) dL_minute_234 ?_
            refine x_iload15 M dL_minute_235 ?_
            refine n_sub M (by omega) dL_minute_237 ?_
            refine x_istore16 M dL_minute_238 ?_
            refine x_iload9 M dL_minute_240 ?_
            refine x_iload13 M dL_minute_242 ?_
            refine n_if_gt (tgt := 261) M (by first | omega | exact hB _ _ | exact hC _ _) dL_minute_244 (by decide) (fun q244 => absurd q244 (by omega)) (fun q244 => ?_)
            refine x_aload0 M dL_minute_247 ?_
            refine x_iload11 M dL_minute_248 ?_
            refine x_callV0 M TB hAA mv_X2_order kw_271 dL_minute_250 (c_order (X := (mnt X).1) hOZ hk3) rfl wl_X rfl rfl ⟨by decide, by decide⟩ ⟨by decide, by decide⟩ (Nat.le_of_ble_eq_true rfl) ?_
            refine x_aload6 M dL_minute_253 ?_
            refine x_iload11 M dL_minute_255 ?_
            refine eR3 M TB (by omega) (by omega) dL_minute_257 ?_
            refine ee_icmp_eq (tgt := 265) M (by first | omega | exact hB _ _ | exact hC _ _) (by first | omega | exact hB _ _ | exact hC _ _) dL_minute_258 (by decide) (fun q258 => ?_) (fun q258 => absurd h8 q258)
            refine x_iconst (v := nI 0) M dL_minute_265 (by decide +kernel) ?_
            refine n_add M dL_minute_266 ?_
            refine x_istore9 M dL_minute_267 ?_
            refine x_iload13 M dL_minute_269 ?_
            refine n_if_eq (tgt := 308) M (by first | omega | exact hB _ _ | exact hC _ _) dL_minute_271 (by decide) (fun q271 => ?_) (fun q271 => absurd g0 q271)
            refine x_aload0 M dL_minute_308 ?_
            refine x_iload11 M dL_minute_309 ?_
            refine x_callV0 M TB hAA mv_X2_ghosts kw_267 dL_minute_311 (c_ghosts (X := (mnt X).1) hOZ hk3) rfl wl_X rfl rfl ⟨by decide, by decide⟩ ⟨by decide, by decide⟩ (Nat.le_of_ble_eq_true rfl) ?_
            refine x_iload13 M dL_minute_314 ?_
            refine n_if_ne (tgt := 327) M (by first | omega | exact hB _ _ | exact hC _ _) dL_minute_316 (by decide) (fun q316 => absurd g0 q316) (fun q316 => ?_)
            refine x_aload4 M dL_minute_319 ?_
            refine x_iload11 M dL_minute_321 ?_
            refine eR1 M TB (by omega) (by omega) dL_minute_323 ?_
            refine x_goto (tgt := 344) M dL_minute_324 (by decide) ?_
            refine n_icmp_ne (tgt := 407) M (by first | omega | exact hB _ _ | exact hC _ _) (by first | omega | exact hB _ _ | exact hC _ _) dL_minute_344 (by decide) (fun q344 => absurd q344 (by omega)) (fun q344 => ?_)
            refine x_aload0 M dL_minute_347 ?_
            refine x_iload11 M dL_minute_348 ?_
            refine x_callV0 M TB hAA mv_X2_battery kw_263 dL_minute_350 (c_battery (X := (mnt X).1) hOZ hk3) rfl wl_X rfl rfl ⟨by decide, by decide⟩ ⟨by decide, by decide⟩ (Nat.le_of_ble_eq_true rfl) ?_
            refine x_iload16 M dL_minute_353 ?_
            refine n_if_le (tgt := 365) M (by first | omega | exact hB _ _ | exact hC _ _) dL_minute_355 (by decide) (fun q355 => ?_) (fun q355 => ?_)
            · refine x_iconst (v := nI 0) M dL_minute_365 (by decide +kernel) ?_
              refine n_icmp_ne (tgt := 407) M (by first | omega | exact hB _ _ | exact hC _ _) (by first | omega | exact hB _ _ | exact hC _ _) dL_minute_366 (by decide) (fun q366 => absurd q366 (by omega)) (fun q366 => ?_)
              refine x_aload0 M dL_minute_369 ?_
              refine x_iload11 M dL_minute_370 ?_
              refine x_callV0 M TB hAA mv_X2_order kw_271 dL_minute_372 (c_order (X := (mnt X).1) hOZ hk3) rfl wl_X rfl rfl ⟨by decide, by decide⟩ ⟨by decide, by decide⟩ (Nat.le_of_ble_eq_true rfl) ?_
              refine x_aload6 M dL_minute_375 ?_
              refine x_iload11 M dL_minute_377 ?_
              refine eR3 M TB (by omega) (by omega) dL_minute_379 ?_
              refine ee_icmp_eq (tgt := 403) M (by first | omega | exact hB _ _ | exact hC _ _) (by first | omega | exact hB _ _ | exact hC _ _) dL_minute_380 (by decide) (fun q380 => ?_) (fun q380 => absurd h8 q380)
              refine x_iconst (v := nI 1) M dL_minute_403 (by decide +kernel) ?_
              refine x_goto (tgt := 408) M dL_minute_404 (by decide) ?_
              refine x_istore10 M dL_minute_408 ?_
              refine n_inc11 M dL_minute_410 ?_
              refine x_goto (tgt := 155) M dL_minute_413 (by decide) ?_
              rw [show acs X k + 0 = acs X (k + 1) by omega]
              exact ih (k + 1) _ _ _ _ _ (by omega)
            · refine x_iload16 M dL_minute_358 ?_
              refine x_iconst (v := nI 1) M dL_minute_360 (by decide +kernel) ?_
              refine n_sub M (by omega) dL_minute_361 ?_
              refine x_goto (tgt := 366) M dL_minute_362 (by decide) ?_
              refine n_icmp_ne (tgt := 407) M (by first | omega | exact hB _ _ | exact hC _ _) (by first | omega | exact hB _ _ | exact hC _ _) dL_minute_366 (by decide) (fun q366 => absurd q366 (by omega)) (fun q366 => ?_)
              refine x_aload0 M dL_minute_369 ?_
              refine x_iload11 M dL_minute_370 ?_
              refine x_callV0 M TB hAA mv_X2_order kw_271 dL_minute_372 (c_order (X := (mnt X).1) hOZ hk3) rfl wl_X rfl rfl ⟨by decide, by decide⟩ ⟨by decide, by decide⟩ (Nat.le_of_ble_eq_true rfl) ?_
              refine x_aload6 M dL_minute_375 ?_
              refine x_iload11 M dL_minute_377 ?_
              refine eR3 M TB (by omega) (by omega) dL_minute_379 ?_
              refine ee_icmp_eq (tgt := 403) M (by first | omega | exact hB _ _ | exact hC _ _) (by first | omega | exact hB _ _ | exact hC _ _) dL_minute_380 (by decide) (fun q380 => ?_) (fun q380 => absurd h8 q380)
              refine x_iconst (v := nI 1) M dL_minute_403 (by decide +kernel) ?_
              refine x_goto (tgt := 408) M dL_minute_404 (by decide) ?_
              refine x_istore10 M dL_minute_408 ?_
              refine n_inc11 M dL_minute_410 ?_
              refine x_goto (tgt := 155) M dL_minute_413 (by decide) ?_
              rw [show acs X k + 0 = acs X (k + 1) by omega]
              exact ih (k + 1) _ _ _ _ _ (by omega)
          · have ha : act X k = 1 := if_pos (Or.inr (by omega))
            refine x_iload11 M dL_minute_155 ?_
            refine x_aload1 M dL_minute_157 ?_
            refine x_iconst (v := nI 1) M dL_minute_158 (by decide +kernel) ?_
            refine aCv M TB hc1 (by omega) dL_minute_159 ?_
            refine n_icmp_ge (tgt := 416) M (by first | omega | exact hB _ _ | exact hC _ _) (by first | omega | exact hB _ _ | exact hC _ _) dL_minute_160 (by decide) (fun q160 => absurd q160 (by omega)) (fun q160 => ?_)
            refine x_iload10 M dL_minute_163 ?_
            refine n_if_eq (tgt := 416) M (by first | omega | exact hB _ _ | exact hC _ _) dL_minute_165 (by decide) (fun q165 => absurd q165 (by decide)) (fun q165 => ?_)
            refine x_aload0 M dL_minute_168 ?_
            refine x_iload11 M dL_minute_169 ?_
            refine x_callV0 M TB hAA mv_X2_shown kw_250 dL_minute_171 (c_shown (X := (mnt X).1) hOZ hk3) rfl wl_X rfl rfl ⟨by decide, by decide⟩ ⟨by decide, by decide⟩ (Nat.le_of_ble_eq_true rfl) ?_
            refine x_istore12 M rfl dL_minute_174 ?_
            refine x_aload3 M dL_minute_176 ?_
            refine x_iload11 M dL_minute_177 ?_
            refine eR0 M TB (by omega) (by omega) dL_minute_179 ?_
            refine x_iload12 M dL_minute_180 ?_
            refine x_callS0 M TB hAA mv_L_changed kw_370 dL_minute_182 (l_changed (hO.s k) (hOZ.s k)) rfl ⟨by decide, by decide⟩ ⟨by decide, by decide⟩ (Nat.le_of_ble_eq_true rfl) ?_
            refine x_istore13 M dL_minute_185 ?_
            refine x_aload4 M dL_minute_187 ?_
            refine x_iload11 M dL_minute_189 ?_
            refine eR1 M TB (by omega) (by omega) dL_minute_191 ?_
            refine x_iload13 M dL_minute_192 ?_
            refine n_add M dL_minute_194 ?_
            refine x_bipush (v := nI 9) M dL_minute_195 (by decide +kernel) ?_
            refine n_icmp_le (tgt := 204) M (by first | omega | exact hB _ _ | exact hC _ _) (by first | omega | exact hB _ _ | exact hC _ _) dL_minute_197 (by decide) (fun q197 => ?_) (fun q197 => absurd q197 (by omega))
            refine x_iconst (v := nI 0) M dL_minute_204 (by decide +kernel) ?_
            refine x_istore14 M dL_minute_205 ?_
            refine x_iload13 M dL_minute_207 ?_
            refine n_if_ne (tgt := 216) M (by first | omega | exact hB _ _ | exact hC _ _) dL_minute_209 (by decide) (fun q209 => absurd g0 q209) (fun q209 => ?_)
            refine x_iconst (v := nI 0) M dL_minute_212 (by decide +kernel) ?_
            refine x_goto (tgt := 228) M dL_minute_213 (by decide) ?_
            refine x_istore15 M dL_minute_228 ?_
            refine x_aload5 M dL_minute_230 ?_
            refine x_iload11 M dL_minute_232 ?_
            refine eR2 M TB (by omega) (by omega) dL_minute_234 ?_
            refine x_iload15 M dL_minute_235 ?_
            refine n_sub M (by omega) dL_minute_237 ?_
            refine x_istore16 M dL_minute_238 ?_
            refine x_iload9 M dL_minute_240 ?_
            refine x_iload13 M dL_minute_242 ?_
            refine n_if_gt (tgt := 261) M (by first | omega | exact hB _ _ | exact hC _ _) dL_minute_244 (by decide) (fun q244 => absurd q244 (by omega)) (fun q244 => ?_)
            refine x_aload0 M dL_minute_247 ?_
            refine x_iload11 M dL_minute_248 ?_
            refine x_callV0 M TB hAA mv_X2_order kw_271 dL_minute_250 (c_order (X := (mnt X).1) hOZ hk3) rfl wl_X rfl rfl ⟨by decide, by decide⟩ ⟨by decide, by decide⟩ (Nat.le_of_ble_eq_true rfl) ?_
            refine x_aload6 M dL_minute_253 ?_
            refine x_iload11 M dL_minute_255 ?_
            refine eR3 M TB (by omega) (by omega) dL_minute_257 ?_
            refine ee_icmp_eq (tgt := 265) M (by first | omega | exact hB _ _ | exact hC _ _) (by first | omega | exact hB _ _ | exact hC _ _) dL_minute_258 (by decide) (fun q258 => absurd q258 (by omega)) (fun q258 => ?_)
            refine x_iconst (v := nI 1) M dL_minute_261 (by decide +kernel) ?_
            refine x_goto (tgt := 266) M dL_minute_262 (by decide) ?_
            refine n_add M dL_minute_266 ?_
            refine x_istore9 M dL_minute_267 ?_
            refine x_iload13 M dL_minute_269 ?_
            refine n_if_eq (tgt := 308) M (by first | omega | exact hB _ _ | exact hC _ _) dL_minute_271 (by decide) (fun q271 => ?_) (fun q271 => absurd g0 q271)
            refine x_aload0 M dL_minute_308 ?_
            refine x_iload11 M dL_minute_309 ?_
            refine x_callV0 M TB hAA mv_X2_ghosts kw_267 dL_minute_311 (c_ghosts (X := (mnt X).1) hOZ hk3) rfl wl_X rfl rfl ⟨by decide, by decide⟩ ⟨by decide, by decide⟩ (Nat.le_of_ble_eq_true rfl) ?_
            refine x_iload13 M dL_minute_314 ?_
            refine n_if_ne (tgt := 327) M (by first | omega | exact hB _ _ | exact hC _ _) dL_minute_316 (by decide) (fun q316 => absurd g0 q316) (fun q316 => ?_)
            refine x_aload4 M dL_minute_319 ?_
            refine x_iload11 M dL_minute_321 ?_
            refine eR1 M TB (by omega) (by omega) dL_minute_323 ?_
            refine x_goto (tgt := 344) M dL_minute_324 (by decide) ?_
            refine n_icmp_ne (tgt := 407) M (by first | omega | exact hB _ _ | exact hC _ _) (by first | omega | exact hB _ _ | exact hC _ _) dL_minute_344 (by decide) (fun q344 => absurd q344 (by omega)) (fun q344 => ?_)
            refine x_aload0 M dL_minute_347 ?_
            refine x_iload11 M dL_minute_348 ?_
            refine x_callV0 M TB hAA mv_X2_battery kw_263 dL_minute_350 (c_battery (X := (mnt X).1) hOZ hk3) rfl wl_X rfl rfl ⟨by decide, by decide⟩ ⟨by decide, by decide⟩ (Nat.le_of_ble_eq_true rfl) ?_
            refine x_iload16 M dL_minute_353 ?_
            refine n_if_le (tgt := 365) M (by first | omega | exact hB _ _ | exact hC _ _) dL_minute_355 (by decide) (fun q355 => ?_) (fun q355 => ?_)
            · refine x_iconst (v := nI 0) M dL_minute_365 (by decide +kernel) ?_
              refine n_icmp_ne (tgt := 407) M (by first | omega | exact hB _ _ | exact hC _ _) (by first | omega | exact hB _ _ | exact hC _ _) dL_minute_366 (by decide) (fun q366 => absurd q366 (by omega)) (fun q366 => ?_)
              refine x_aload0 M dL_minute_369 ?_
              refine x_iload11 M dL_minute_370 ?_
              refine x_callV0 M TB hAA mv_X2_order kw_271 dL_minute_372 (c_order (X := (mnt X).1) hOZ hk3) rfl wl_X rfl rfl ⟨by decide, by decide⟩ ⟨by decide, by decide⟩ (Nat.le_of_ble_eq_true rfl) ?_
              refine x_aload6 M dL_minute_375 ?_
              refine x_iload11 M dL_minute_377 ?_
              refine eR3 M TB (by omega) (by omega) dL_minute_379 ?_
              refine ee_icmp_eq (tgt := 403) M (by first | omega | exact hB _ _ | exact hC _ _) (by first | omega | exact hB _ _ | exact hC _ _) dL_minute_380 (by decide) (fun q380 => absurd q380 (by omega)) (fun q380 => ?_)
              refine x_aload0 M dL_minute_383 ?_
              refine x_iload11 M dL_minute_384 ?_
              refine x_callV0 M TB hAA mv_X2_order kw_271 dL_minute_386 (c_order (X := (mnt X).1) hOZ hk3) rfl wl_X rfl rfl ⟨by decide, by decide⟩ ⟨by decide, by decide⟩ (Nat.le_of_ble_eq_true rfl) ?_
              refine x_iconst (v := (-1)) M dL_minute_389 (by decide +kernel) ?_
              refine e_icmp_ne (tgt := 407) M (by first | omega | exact hB _ _ | exact hC _ _) dL_minute_390 (by decide) (fun q390 => absurd h8 q390) (fun q390 => ?_)
              refine x_aload5 M dL_minute_393 ?_
              refine x_iload11 M dL_minute_395 ?_
              refine eR2 M TB (by omega) (by omega) dL_minute_397 ?_
              refine x_bipush (v := nI 20) M dL_minute_398 (by decide +kernel) ?_
              refine n_icmp_lt (tgt := 407) M (by first | omega | exact hB _ _ | exact hC _ _) (by first | omega | exact hB _ _ | exact hC _ _) dL_minute_400 (by decide) (fun q400 => absurd q400 (by omega)) (fun q400 => ?_)
              refine x_iconst (v := nI 1) M dL_minute_403 (by decide +kernel) ?_
              refine x_goto (tgt := 408) M dL_minute_404 (by decide) ?_
              refine x_istore10 M dL_minute_408 ?_
              refine n_inc11 M dL_minute_410 ?_
              refine x_goto (tgt := 155) M dL_minute_413 (by decide) ?_
              rw [show acs X k + 1 = acs X (k + 1) by omega]
              exact ih (k + 1) _ _ _ _ _ (by omega)
            · refine x_iload16 M dL_minute_358 ?_
              refine x_iconst (v := nI 1) M dL_minute_360 (by decide +kernel) ?_
              refine n_sub M (by omega) dL_minute_361 ?_
              refine x_goto (tgt := 366) M dL_minute_362 (by decide) ?_
              refine n_icmp_ne (tgt := 407) M (by first | omega | exact hB _ _ | exact hC _ _) (by first | omega | exact hB _ _ | exact hC _ _) dL_minute_366 (by decide) (fun q366 => absurd q366 (by omega)) (fun q366 => ?_)
              refine x_aload0 M dL_minute_369 ?_
              refine x_iload11 M dL_minute_370 ?_
              refine x_callV0 M TB hAA mv_X2_order kw_271 dL_minute_372 (c_order (X := (mnt X).1) hOZ hk3) rfl wl_X rfl rfl ⟨by decide, by decide⟩ ⟨by decide, by decide⟩ (Nat.le_of_ble_eq_true rfl) ?_
              refine x_aload6 M dL_minute_375 ?_
              refine x_iload11 M dL_minute_377 ?_
              refine eR3 M TB (by omega) (by omega) dL_minute_379 ?_
              refine ee_icmp_eq (tgt := 403) M (by first | omega | exact hB _ _ | exact hC _ _) (by first | omega | exact hB _ _ | exact hC _ _) dL_minute_380 (by decide) (fun q380 => absurd q380 (by omega)) (fun q380 => ?_)
              refine x_aload0 M dL_minute_383 ?_
              refine x_iload11 M dL_minute_384 ?_
              refine x_callV0 M TB hAA mv_X2_order kw_271 dL_minute_386 (c_order (X := (mnt X).1) hOZ hk3) rfl wl_X rfl rfl ⟨by decide, by decide⟩ ⟨by decide, by decide⟩ (Nat.le_of_ble_eq_true rfl) ?_
              refine x_iconst (v := (-1)) M dL_minute_389 (by decide +kernel) ?_
              refine e_icmp_ne (tgt := 407) M (by first | omega | exact hB _ _ | exact hC _ _) dL_minute_390 (by decide) (fun q390 => absurd h8 q390) (fun q390 => ?_)
              refine x_aload5 M dL_minute_393 ?_
              refine x_iload11 M dL_minute_395 ?_
              refine eR2 M TB (by omega) (by omega) dL_minute_397 ?_
              refine x_bipush (v := nI 20) M dL_minute_398 (by decide +kernel) ?_
              refine n_icmp_lt (tgt := 407) M (by first | omega | exact hB _ _ | exact hC _ _) (by first | omega | exact hB _ _ | exact hC _ _) dL_minute_400 (by decide) (fun q400 => absurd q400 (by omega)) (fun q400 => ?_)
              refine x_iconst (v := nI 1) M dL_minute_403 (by decide +kernel) ?_
              refine x_goto (tgt := 408) M dL_minute_404 (by decide) ?_
              refine x_istore10 M dL_minute_408 ?_
              refine n_inc11 M dL_minute_410 ?_
              refine x_goto (tgt := 155) M dL_minute_413 (by decide) ?_
              rw [show acs X k + 1 = acs X (k + 1) by omega]
              exact ih (k + 1) _ _ _ _ _ (by omega)
        · rcases h8 with h8 | ⟨h8, h8o, h820⟩
          · have ha : act X k = 1 := if_pos (Or.inl g0)
            refine x_iload11 M dL_minute_155 ?_
            refine x_aload1 M dL_minute_157 ?_
            refine x_iconst (v := nI 1) M dL_minute_158 (by decide +kernel) ?_
            refine aCv M TB hc1 (by omega) dL_minute_159 ?_
            refine n_icmp_ge (tgt := 416) M (by first | omega | exact hB _ _ | exact hC _ _) (by first | omega | exact hB _ _ | exact hC _ _) dL_minute_160 (by decide) (fun q160 => absurd q160 (by omega)) (fun q160 => ?_)
            refine x_iload10 M dL_minute_163 ?_
            refine n_if_eq (tgt := 416) M (by first | omega | exact hB _ _ | exact hC _ _) dL_minute_165 (by decide) (fun q165 => absurd q165 (by decide)) (fun q165 => ?_)
            refine x_aload0 M dL_minute_168 ?_
            refine x_iload11 M dL_minute_169 ?_
            refine x_callV0 M TB hAA mv_X2_shown kw_250 dL_minute_171 (c_shown (X := (mnt X).1) hOZ hk3) rfl wl_X rfl rfl ⟨by decide, by decide⟩ ⟨by decide, by decide⟩ (Nat.le_of_ble_eq_true rfl) ?_
            refine x_istore12 M rfl dL_minute_174 ?_
            refine x_aload3 M dL_minute_176 ?_
            refine x_iload11 M dL_minute_177 ?_
            refine eR0 M TB (by omega) (by omega) dL_minute_179 ?_
            refine x_iload12 M dL_minute_180 ?_
            refine x_callS0 M TB hAA mv_L_changed kw_370 dL_minute_182 (l_changed (hO.s k) (hOZ.s k)) rfl ⟨by decide, by decide⟩ ⟨by decide, by decide⟩ (Nat.le_of_ble_eq_true rfl) ?_
            refine x_istore13 M dL_minute_185 ?_
            refine x_aload4 M dL_minute_187 ?_
            refine x_iload11 M dL_minute_189 ?_
            refine eR1 M TB (by omega) (by omega) dL_minute_191 ?_
            refine x_iload13 M dL_minute_192 ?_
            refine n_add M dL_minute_194 ?_
            refine x_bipush (v := nI 9) M dL_minute_195 (by decide +kernel) ?_
            refine n_icmp_le (tgt := 204) M (by first | omega | exact hB _ _ | exact hC _ _) (by first | omega | exact hB _ _ | exact hC _ _) dL_minute_197 (by decide) (fun q197 => absurd q197 (by omega)) (fun q197 => ?_)
            refine x_iconst (v := nI 1) M dL_minute_200 (by decide +kernel) ?_
            refine x_goto (tgt := 205) M dL_minute_201 (by decide) ?_
            refine x_istore14 M dL_minute_205 ?_
            refine x_iload13 M dL_minute_207 ?_
            refine n_if_ne (tgt := 216) M (by first | omega | exact hB _ _ | exact hC _ _) dL_minute_209 (by decide) (fun q209 => ?_) (fun q209 => absurd q209 (by omega))
            refine x_iload14 M dL_minute_216 ?_
            refine n_if_eq (tgt := 226) M (by first | omega | exact hB _ _ | exact hC _ _) dL_minute_218 (by decide) (fun q218 => absurd q218 (by decide)) (fun q218 => ?_)
            refine x_bipush (v := nI 20) M dL_minute_221 (by decide +kernel) ?_
            refine x_goto (tgt := 228) M dL_minute_223 (by decide) ?_
            refine x_istore15 M dL_minute_228 ?_
            refine x_aload5 M dL_minute_230 ?_
            refine x_iload11 M dL_minute_232 ?_
            refine eR2 M TB (by omega) (by omega) dL_minute_234 ?_
            refine x_iload15 M dL_minute_235 ?_
            refine n_sub M (by omega) dL_minute_237 ?_
            refine x_istore16 M dL_minute_238 ?_
            refine x_iload9 M dL_minute_240 ?_
            refine x_iload13 M dL_minute_242 ?_
            refine n_if_gt (tgt := 261) M (by first | omega | exact hB _ _ | exact hC _ _) dL_minute_244 (by decide) (fun q244 => ?_) (fun q244 => absurd q244 (by omega))
            refine x_iconst (v := nI 1) M dL_minute_261 (by decide +kernel) ?_
            refine x_goto (tgt := 266) M dL_minute_262 (by decide) ?_
            refine n_add M dL_minute_266 ?_
            refine x_istore9 M dL_minute_267 ?_
            refine x_iload13 M dL_minute_269 ?_
            refine n_if_eq (tgt := 308) M (by first | omega | exact hB _ _ | exact hC _ _) dL_minute_271 (by decide) (fun q271 => absurd q271 (by omega)) (fun q271 => ?_)
            refine x_iload12 M dL_minute_274 ?_
            refine x_aload0 M dL_minute_276 ?_
            refine x_aload1 M dL_minute_277 ?_
            refine x_iconst (v := nI 3) M dL_minute_278 (by decide +kernel) ?_
            refine x_iload11 M dL_minute_279 ?_
            refine n_add M dL_minute_281 ?_
            refine aCv M TB hcw (by omega) dL_minute_282 ?_
            refine x_callV0 M TB hAA mv_X2_price kw_259 dL_minute_283 (c_price (X := (mnt X).1) hw2) rfl wl_X rfl rfl ⟨by decide, by decide⟩ ⟨by decide, by decide⟩ (Nat.le_of_ble_eq_true rfl) ?_
            rw [mnt_p]
            refine n_icmp_ne (tgt := 407) M (by first | omega | exact hB _ _ | exact hC _ _) (by first | omega | exact hB _ _ | exact hC _ _) dL_minute_286 (by decide) (fun q286 => absurd gp q286) (fun q286 => ?_)
            refine x_aload5 M dL_minute_289 ?_
            refine x_iload11 M dL_minute_291 ?_
            refine eR2 M TB (by omega) (by omega) dL_minute_293 ?_
            refine x_bipush (v := nI 20) M dL_minute_294 (by decide +kernel) ?_
            refine n_icmp_lt (tgt := 407) M (by first | omega | exact hB _ _ | exact hC _ _) (by first | omega | exact hB _ _ | exact hC _ _) dL_minute_296 (by decide) (fun q296 => absurd q296 (by omega)) (fun q296 => ?_)
            refine x_aload6 M dL_minute_299 ?_
            refine x_iload11 M dL_minute_301 ?_
            refine eR3 M TB (by omega) (by omega) dL_minute_303 ?_
            refine x_iconst (v := (-1)) M dL_minute_304 (by decide +kernel) ?_
            refine e_icmp_eq (tgt := 407) M (by first | omega | exact hB _ _ | exact hC _ _) dL_minute_305 (by decide) (fun q305 => absurd q305 go) (fun q305 => ?_)
            refine x_aload0 M dL_minute_308 ?_
            refine x_iload11 M dL_minute_309 ?_
            refine x_callV0 M TB hAA mv_X2_ghosts kw_267 dL_minute_311 (c_ghosts (X := (mnt X).1) hOZ hk3) rfl wl_X rfl rfl ⟨by decide, by decide⟩ ⟨by decide, by decide⟩ (Nat.le_of_ble_eq_true rfl) ?_
            refine x_iload13 M dL_minute_314 ?_
            refine n_if_ne (tgt := 327) M (by first | omega | exact hB _ _ | exact hC _ _) dL_minute_316 (by decide) (fun q316 => ?_) (fun q316 => absurd q316 (by omega))
            refine x_iload14 M dL_minute_327 ?_
            refine n_if_eq (tgt := 336) M (by first | omega | exact hB _ _ | exact hC _ _) dL_minute_329 (by decide) (fun q329 => absurd q329 (by decide)) (fun q329 => ?_)
            refine x_iconst (v := nI 0) M dL_minute_332 (by decide +kernel) ?_
            refine x_goto (tgt := 344) M dL_minute_333 (by decide) ?_
            refine n_icmp_ne (tgt := 407) M (by first | omega | exact hB _ _ | exact hC _ _) (by first | omega | exact hB _ _ | exact hC _ _) dL_minute_344 (by decide) (fun q344 => absurd q344 (by omega)) (fun q344 => ?_)
            refine x_aload0 M dL_minute_347 ?_
            refine x_iload11 M dL_minute_348 ?_
            refine x_callV0 M TB hAA mv_X2_battery kw_263 dL_minute_350 (c_battery (X := (mnt X).1) hOZ hk3) rfl wl_X rfl rfl ⟨by decide, by decide⟩ ⟨by decide, by decide⟩ (Nat.le_of_ble_eq_true rfl) ?_
            refine x_iload16 M dL_minute_353 ?_
            refine n_if_le (tgt := 365) M (by first | omega | exact hB _ _ | exact hC _ _) dL_minute_355 (by decide) (fun q355 => ?_) (fun q355 => ?_)
            · refine x_iconst (v := nI 0) M dL_minute_365 (by decide +kernel) ?_
              refine n_icmp_ne (tgt := 407) M (by first | omega | exact hB _ _ | exact hC _ _) (by first | omega | exact hB _ _ | exact hC _ _) dL_minute_366 (by decide) (fun q366 => absurd q366 (by omega)) (fun q366 => ?_)
              refine x_aload0 M dL_minute_369 ?_
              refine x_iload11 M dL_minute_370 ?_
              refine x_callV0 M TB hAA mv_X2_order kw_271 dL_minute_372 (c_order (X := (mnt X).1) hOZ hk3) rfl wl_X rfl rfl ⟨by decide, by decide⟩ ⟨by decide, by decide⟩ (Nat.le_of_ble_eq_true rfl) ?_
              refine x_aload6 M dL_minute_375 ?_
              refine x_iload11 M dL_minute_377 ?_
              refine eR3 M TB (by omega) (by omega) dL_minute_379 ?_
              refine ee_icmp_eq (tgt := 403) M (by first | omega | exact hB _ _ | exact hC _ _) (by first | omega | exact hB _ _ | exact hC _ _) dL_minute_380 (by decide) (fun q380 => ?_) (fun q380 => absurd h8 q380)
              refine x_iconst (v := nI 1) M dL_minute_403 (by decide +kernel) ?_
              refine x_goto (tgt := 408) M dL_minute_404 (by decide) ?_
              refine x_istore10 M dL_minute_408 ?_
              refine n_inc11 M dL_minute_410 ?_
              refine x_goto (tgt := 155) M dL_minute_413 (by decide) ?_
              rw [show acs X k + 1 = acs X (k + 1) by omega]
              exact ih (k + 1) _ _ _ _ _ (by omega)
            · refine x_iload16 M dL_minute_358 ?_
              refine x_iconst (v := nI 1) M dL_minute_360 (by decide +kernel) ?_
              refine n_sub M (by omega) dL_minute_361 ?_
              refine x_goto (tgt := 366) M dL_minute_362 (by decide) ?_
              refine n_icmp_ne (tgt := 407) M (by first | omega | exact hB _ _ | exact hC _ _) (by first | omega | exact hB _ _ | exact hC _ _) dL_minute_366 (by decide) (fun q366 => absurd q366 (by omega)) (fun q366 => ?_)
              refine x_aload0 M dL_minute_369 ?_
              refine x_iload11 M dL_minute_370 ?_
              refine x_callV0 M TB hAA mv_X2_order kw_271 dL_minute_372 (c_order (X := (mnt X).1) hOZ hk3) rfl wl_X rfl rfl ⟨by decide, by decide⟩ ⟨by decide, by decide⟩ (Nat.le_of_ble_eq_true rfl) ?_
              refine x_aload6 M dL_minute_375 ?_
              refine x_iload11 M dL_minute_377 ?_
              refine eR3 M TB (by omega) (by omega) dL_minute_379 ?_
              refine ee_icmp_eq (tgt := 403) M (by first | omega | exact hB _ _ | exact hC _ _) (by first | omega | exact hB _ _ | exact hC _ _) dL_minute_380 (by decide) (fun q380 => ?_) (fun q380 => absurd h8 q380)
              refine x_iconst (v := nI 1) M dL_minute_403 (by decide +kernel) ?_
              refine x_goto (tgt := 408) M dL_minute_404 (by decide) ?_
              refine x_istore10 M dL_minute_408 ?_
              refine n_inc11 M dL_minute_410 ?_
              refine x_goto (tgt := 155) M dL_minute_413 (by decide) ?_
              rw [show acs X k + 1 = acs X (k + 1) by omega]
              exact ih (k + 1) _ _ _ _ _ (by omega)
          · have ha : act X k = 1 := if_pos (Or.inl g0)
            refine x_iload11 M dL_minute_155 ?_
            refine x_aload1 M dL_minute_157 ?_
            refine x_iconst (v := nI 1) M dL_minute_158 (by decide +kernel) ?_
            refine aCv M TB hc1 (by omega) dL_minute_159 ?_
            refine n_icmp_ge (tgt := 416) M (by first | omega | exact hB _ _ | exact hC _ _) (by first | omega | exact hB _ _ | exact hC _ _) dL_minute_160 (by decide) (fun q160 => absurd q160 (by omega)) (fun q160 => ?_)
            refine x_iload10 M dL_minute_163 ?_
            refine n_if_eq (tgt := 416) M (by first | omega | exact hB _ _ | exact hC _ _) dL_minute_165 (by decide) (fun q165 => absurd q165 (by decide)) (fun q165 => ?_)
            refine x_aload0 M dL_minute_168 ?_
            refine x_iload11 M dL_minute_169 ?_
            refine x_callV0 M TB hAA mv_X2_shown kw_250 dL_minute_171 (c_shown (X := (mnt X).1) hOZ hk3) rfl wl_X rfl rfl ⟨by decide, by decide⟩ ⟨by decide, by decide⟩ (Nat.le_of_ble_eq_true rfl) ?_
            refine x_istore12 M rfl dL_minute_174 ?_
            refine x_aload3 M dL_minute_176 ?_
            refine x_iload11 M dL_minute_177 ?_
            refine eR0 M TB (by omega) (by omega) dL_minute_179 ?_
            refine x_iload12 M dL_minute_180 ?_
            refine x_callS0 M TB hAA mv_L_changed kw_370 dL_minute_182 (l_changed (hO.s k) (hOZ.s k)) rfl ⟨by decide, by decide⟩ ⟨by decide, by decide⟩ (Nat.le_of_ble_eq_true rfl) ?_
            refine x_istore13 M dL_minute_185 ?_
            refine x_aload4 M dL_minute_187 ?_
            refine x_iload11 M dL_minute_189 ?_
            refine eR1 M TB (by omega) (by omega) dL_minute_191 ?_
            refine x_iload13 M dL_minute_192 ?_
            refine n_add M dL_minute_194 ?_
            refine x_bipush (v := nI 9) M dL_minute_195 (by decide +kernel) ?_
            refine n_icmp_le (tgt := 204) M (by first | omega | exact hB _ _ | exact hC _ _) (by first | omega | exact hB _ _ | exact hC _ _) dL_minute_197 (by decide) (fun q197 => absurd q197 (by omega)) (fun q197 => ?_)
            refine x_iconst (v := nI 1) M dL_minute_200 (by decide +kernel) ?_
            refine x_goto (tgt := 205) M dL_minute_201 (by decide) ?_
            refine x_istore14 M dL_minute_205 ?_
            refine x_iload13 M dL_minute_207 ?_
            refine n_if_ne (tgt := 216) M (by first | omega | exact hB _ _ | exact hC _ _) dL_minute_209 (by decide) (fun q209 => ?_) (fun q209 => absurd q209 (by omega))
            refine x_iload14 M dL_minute_216 ?_
            refine n_if_eq (tgt := 226) M (by first | omega | exact hB _ _ | exact hC _ _) dL_minute_218 (by decide) (fun q218 => absurd q218 (by decide)) (fun q218 => ?_)
            refine x_bipush (v := nI 20) M dL_minute_221 (by decide +kernel) ?_
            refine x_goto (tgt := 228) M dL_minute_223 (by decide) ?_
            refine x_istore15 M dL_minute_228 ?_
            refine x_aload5 M dL_minute_230 ?_
            refine x_iload11 M dL_minute_232 ?_
            refine eR2 M TB (by omega) (by omega) dL_minute_234 ?_
            refine x_iload15 M dL_minute_235 ?_
            refine n_sub M (by omega) dL_minute_237 ?_
            refine x_istore16 M dL_minute_238 ?_
            refine x_iload9 M dL_minute_240 ?_
            refine x_iload13 M dL_minute_242 ?_
            refine n_if_gt (tgt := 261) M (by first | omega | exact hB _ _ | exact hC _ _) dL_minute_244 (by decide) (fun q244 => ?_) (fun q244 => absurd q244 (by omega))
            refine x_iconst (v := nI 1) M dL_minute_261 (by decide +kernel) ?_
            refine x_goto (tgt := 266) M dL_minute_262 (by decide) ?_
            refine n_add M dL_minute_266 ?_
            refine x_istore9 M dL_minute_267 ?_
            refine x_iload13 M dL_minute_269 ?_
            refine n_if_eq (tgt := 308) M (by first | omega | exact hB _ _ | exact hC _ _) dL_minute_271 (by decide) (fun q271 => absurd q271 (by omega)) (fun q271 => ?_)
            refine x_iload12 M dL_minute_274 ?_
            refine x_aload0 M dL_minute_276 ?_
            refine x_aload1 M dL_minute_277 ?_
            refine x_iconst (v := nI 3) M dL_minute_278 (by decide +kernel) ?_
            refine x_iload11 M dL_minute_279 ?_
            refine n_add M dL_minute_281 ?_
            refine aCv M TB hcw (by omega) dL_minute_282 ?_
            refine x_callV0 M TB hAA mv_X2_price kw_259 dL_minute_283 (c_price (X := (mnt X).1) hw2) rfl wl_X rfl rfl ⟨by decide, by decide⟩ ⟨by decide, by decide⟩ (Nat.le_of_ble_eq_true rfl) ?_
            rw [mnt_p]
            refine n_icmp_ne (tgt := 407) M (by first | omega | exact hB _ _ | exact hC _ _) (by first | omega | exact hB _ _ | exact hC _ _) dL_minute_286 (by decide) (fun q286 => absurd gp q286) (fun q286 => ?_)
            refine x_aload5 M dL_minute_289 ?_
            refine x_iload11 M dL_minute_291 ?_
            refine eR2 M TB (by omega) (by omega) dL_minute_293 ?_
            refine x_bipush (v := nI 20) M dL_minute_294 (by decide +kernel) ?_
            refine n_icmp_lt (tgt := 407) M (by first | omega | exact hB _ _ | exact hC _ _) (by first | omega | exact hB _ _ | exact hC _ _) dL_minute_296 (by decide) (fun q296 => absurd q296 (by omega)) (fun q296 => ?_)
            refine x_aload6 M dL_minute_299 ?_
            refine x_iload11 M dL_minute_301 ?_
            refine eR3 M TB (by omega) (by omega) dL_minute_303 ?_
            refine x_iconst (v := (-1)) M dL_minute_304 (by decide +kernel) ?_
            refine e_icmp_eq (tgt := 407) M (by first | omega | exact hB _ _ | exact hC _ _) dL_minute_305 (by decide) (fun q305 => absurd q305 go) (fun q305 => ?_)
            refine x_aload0 M dL_minute_308 ?_
            refine x_iload11 M dL_minute_309 ?_
            refine x_callV0 M TB hAA mv_X2_ghosts kw_267 dL_minute_311 (c_ghosts (X := (mnt X).1) hOZ hk3) rfl wl_X rfl rfl ⟨by decide, by decide⟩ ⟨by decide, by decide⟩ (Nat.le_of_ble_eq_true rfl) ?_
            refine x_iload13 M dL_minute_314 ?_
            refine n_if_ne (tgt := 327) M (by first | omega | exact hB _ _ | exact hC _ _) dL_minute_316 (by decide) (fun q316 => ?_) (fun q316 => absurd q316 (by omega))
            refine x_iload14 M dL_minute_327 ?_
            refine n_if_eq (tgt := 336) M (by first | omega | exact hB _ _ | exact hC _ _) dL_minute_329 (by decide) (fun q329 => absurd q329 (by decide)) (fun q329 => ?_)
            refine x_iconst (v := nI 0) M dL_minute_332 (by decide +kernel) ?_
            refine x_goto (tgt := 344) M dL_minute_333 (by decide) ?_
            refine n_icmp_ne (tgt := 407) M (by first | omega | exact hB _ _ | exact hC _ _) (by first | omega | exact hB _ _ | exact hC _ _) dL_minute_344 (by decide) (fun q344 => absurd q344 (by omega)) (fun q344 => ?_)
            refine x_aload0 M dL_minute_347 ?_
            refine x_iload11 M dL_minute_348 ?_
            refine x_callV0 M TB hAA mv_X2_battery kw_263 dL_minute_350 (c_battery (X := (mnt X).1) hOZ hk3) rfl wl_X rfl rfl ⟨by decide, by decide⟩ ⟨by decide, by decide⟩ (Nat.le_of_ble_eq_true rfl) ?_
            refine x_iload16 M dL_minute_353 ?_
            refine n_if_le (tgt := 365) M (by first | omega | exact hB _ _ | exact hC _ _) dL_minute_355 (by decide) (fun q355 => ?_) (fun q355 => ?_)
            · refine x_iconst (v := nI 0) M dL_minute_365 (by decide +kernel) ?_
              refine n_icmp_ne (tgt := 407) M (by first | omega | exact hB _ _ | exact hC _ _) (by first | omega | exact hB _ _ | exact hC _ _) dL_minute_366 (by decide) (fun q366 => absurd q366 (by omega)) (fun q366 => ?_)
              refine x_aload0 M dL_minute_369 ?_
              refine x_iload11 M dL_minute_370 ?_
              refine x_callV0 M TB hAA mv_X2_order kw_271 dL_minute_372 (c_order (X := (mnt X).1) hOZ hk3) rfl wl_X rfl rfl ⟨by decide, by decide⟩ ⟨by decide, by decide⟩ (Nat.le_of_ble_eq_true rfl) ?_
              refine x_aload6 M dL_minute_375 ?_
              refine x_iload11 M dL_minute_377 ?_
              refine eR3 M TB (by omega) (by omega) dL_minute_379 ?_
              refine ee_icmp_eq (tgt := 403) M (by first | omega | exact hB _ _ | exact hC _ _) (by first | omega | exact hB _ _ | exact hC _ _) dL_minute_380 (by decide) (fun q380 => absurd q380 (by omega)) (fun q380 => ?_)
              refine x_aload0 M dL_minute_383 ?_
              refine x_iload11 M dL_minute_384 ?_
              refine x_callV0 M TB hAA mv_X2_order kw_271 dL_minute_386 (c_order (X := (mnt X).1) hOZ hk3) rfl wl_X rfl rfl ⟨by decide, by decide⟩ ⟨by decide, by decide⟩ (Nat.le_of_ble_eq_true rfl) ?_
              refine x_iconst (v := (-1)) M dL_minute_389 (by decide +kernel) ?_
              refine e_icmp_ne (tgt := 407) M (by first | omega | exact hB _ _ | exact hC _ _) dL_minute_390 (by decide) (fun q390 => absurd h8 q390) (fun q390 => ?_)
              refine x_aload5 M dL_minute_393 ?_
              refine x_iload11 M dL_minute_395 ?_
              refine eR2 M TB (by omega) (by omega) dL_minute_397 ?_
              refine x_bipush (v := nI 20) M dL_minute_398 (by decide +kernel) ?_
              refine n_icmp_lt (tgt := 407) M (by first | omega | exact hB _ _ | exact hC _ _) (by first | omega | exact hB _ _ | exact hC _ _) dL_minute_400 (by decide) (fun q400 => absurd q400 (by omega)) (fun q400 => ?_)
              refine x_iconst (v := nI 1) M dL_minute_403 (by decide +kernel) ?_
              refine x_goto (tgt := 408) M dL_minute_404 (by decide) ?_
              refine x_istore10 M dL_minute_408 ?_
              refine n_inc11 M dL_minute_410 ?_
              refine x_goto (tgt := 155) M dL_minute_413 (by decide) ?_
              rw [show acs X k + 1 = acs X (k + 1) by omega]
              exact ih (k + 1) _ _ _ _ _ (by omega)
            · refine x_iload16 M dL_minute_358 ?_
              refine x_iconst (v := nI 1) M dL_minute_360 (by decide +kernel) ?_
              refine n_sub M (by omega) dL_minute_361 ?_
              refine x_goto (tgt := 366) M dL_minute_362 (by decide) ?_
              refine n_icmp_ne (tgt := 407) M (by first | omega | exact hB _ _ | exact hC _ _) (by first | omega | exact hB _ _ | exact hC _ _) dL_minute_366 (by decide) (fun q366 => absurd q366 (by omega)) (fun q366 => ?_)
              refine x_aload0 M dL_minute_369 ?_
              refine x_iload11 M dL_minute_370 ?_
              refine x_callV0 M TB hAA mv_X2_order kw_271 dL_minute_372 (c_order (X := (mnt X).1) hOZ hk3) rfl wl_X rfl rfl ⟨by decide, by decide⟩ ⟨by decide, by decide⟩ (Nat.le_of_ble_eq_true rfl) ?_
              refine x_aload6 M dL_minute_375 ?_
              refine x_iload11 M dL_minute_377 ?_
              refine eR3 M TB (by omega) (by omega) dL_minute_379 ?_
              refine ee_icmp_eq (tgt := 403) M (by first | omega | exact hB _ _ | exact hC _ _) (by first | omega | exact hB _ _ | exact hC _ _) dL_minute_380 (by decide) (fun q380 => absurd q380 (by omega)) (fun q380 => ?_)
              refine x_aload0 M dL_minute_383 ?_
              refine x_iload11 M dL_minute_384 ?_
              refine x_callV0 M TB hAA mv_X2_order kw_271 dL_minute_386 (c_order (X := (mnt X).1) hOZ hk3) rfl wl_X rfl rfl ⟨by decide, by decide⟩ ⟨by decide, by decide⟩ (Nat.le_of_ble_eq_true rfl) ?_
              refine x_iconst (v := (-1)) M dL_minute_389 (by decide +kernel) ?_
              refine e_icmp_ne (tgt := 407) M (by first | omega | exact hB _ _ | exact hC _ _) dL_minute_390 (by decide) (fun q390 => absurd h8 q390) (fun q390 => ?_)
              refine x_aload5 M dL_minute_393 ?_
              refine x_iload11 M dL_minute_395 ?_
              refine eR2 M TB (by omega) (by omega) dL_minute_397 ?_
              refine x_bipush (v := nI 20) M dL_minute_398 (by decide +kernel) ?_
              refine n_icmp_lt (tgt := 407) M (by first | omega | exact hB _ _ | exact hC _ _) (by first | omega | exact hB _ _ | exact hC _ _) dL_minute_400 (by decide) (fun q400 => absurd q400 (by omega)) (fun q400 => ?_)
              refine x_iconst (v := nI 1) M dL_minute_403 (by decide +kernel) ?_
              refine x_goto (tgt := 408) M dL_minute_404 (by decide) ?_
              refine x_istore10 M dL_minute_408 ?_
              refine n_inc11 M dL_minute_410 ?_
              refine x_goto (tgt := 155) M dL_minute_413 (by decide) ?_
              rw [show acs X k + 1 = acs X (k + 1) by omega]
              exact ih (k + 1) _ _ _ _ _ (by omega)
        · rcases h8 with h8 | ⟨h8, h8o, h820⟩
          · have ha : act X k = 1 := if_pos (Or.inl g0)
            refine x_iload11 M dL_minute_155 ?_
            refine x_aload1 M dL_minute_157 ?_
            refine x_iconst (v := nI 1) M dL_minute_158 (by decide +kernel) ?_
            refine aCv M TB hc1 (by omega) dL_minute_159 ?_
            refine n_icmp_ge (tgt := 416) M (by first | omega | exact hB _ _ | exact hC _ _) (by first | omega | exact hB _ _ | exact hC _ _) dL_minute_160 (by decide) (fun q160 => absurd q160 (by omega)) (fun q160 => ?_)
            refine x_iload10 M dL_minute_163 ?_
            refine n_if_eq (tgt := 416) M (by first | omega | exact hB _ _ | exact hC _ _) dL_minute_165 (by decide) (fun q165 => absurd q165 (by decide)) (fun q165 => ?_)
            refine x_aload0 M dL_minute_168 ?_
            refine x_iload11 M dL_minute_169 ?_
            refine x_callV0 M TB hAA mv_X2_shown kw_250 dL_minute_171 (c_shown (X := (mnt X).1) hOZ hk3) rfl wl_X rfl rfl ⟨by decide, by decide⟩ ⟨by decide, by decide⟩ (Nat.le_of_ble_eq_true rfl) ?_
            refine x_istore12 M rfl dL_minute_174 ?_
            refine x_aload3 M dL_minute_176 ?_
            refine x_iload11 M dL_minute_177 ?_
            refine eR0 M TB (by omega) (by omega) dL_minute_179 ?_
            refine x_iload12 M dL_minute_180 ?_
            refine x_callS0 M TB hAA mv_L_changed kw_370 dL_minute_182 (l_changed (hO.s k) (hOZ.s k)) rfl ⟨by decide, by decide⟩ ⟨by decide, by decide⟩ (Nat.le_of_ble_eq_true rfl) ?_
            refine x_istore13 M dL_minute_185 ?_
            refine x_aload4 M dL_minute_187 ?_
            refine x_iload11 M dL_minute_189 ?_
            refine eR1 M TB (by omega) (by omega) dL_minute_191 ?_
            refine x_iload13 M dL_minute_192 ?_
            refine n_add M dL_minute_194 ?_
            refine x_bipush (v := nI 9) M dL_minute_195 (by decide +kernel) ?_
            refine n_icmp_le (tgt := 204) M (by first | omega | exact hB _ _ | exact hC _ _) (by first | omega | exact hB _ _ | exact hC _ _) dL_minute_197 (by decide) (fun q197 => ?_) (fun q197 => absurd q197 (by omega))
            refine x_iconst (v := nI 0) M dL_minute_204 (by decide +kernel) ?_
            refine x_istore14 M dL_minute_205 ?_
            refine x_iload13 M dL_minute_207 ?_
            refine n_if_ne (tgt := 216) M (by first | omega | exact hB _ _ | exact hC _ _) dL_minute_209 (by decide) (fun q209 => ?_) (fun q209 => absurd q209 (by omega))
            refine x_iload14 M dL_minute_216 ?_
            refine n_if_eq (tgt := 226) M (by first | omega | exact hB _ _ | exact hC _ _) dL_minute_218 (by decide) (fun q218 => ?_) (fun q218 => absurd rfl q218)
            refine x_bipush (v := nI 10) M dL_minute_226 (by decide +kernel) ?_
            refine x_istore15 M dL_minute_228 ?_
            refine x_aload5 M dL_minute_230 ?_
            refine x_iload11 M dL_minute_232 ?_
            refine eR2 M TB (by omega) (by omega) dL_minute_234 ?_
            refine x_iload15 M dL_minute_235 ?_
            refine n_sub M (by omega) dL_minute_237 ?_
            refine x_istore16 M dL_minute_238 ?_
            refine x_iload9 M dL_minute_240 ?_
            refine x_iload13 M dL_minute_242 ?_
            refine n_if_gt (tgt := 261) M (by first | omega | exact hB _ _ | exact hC _ _) dL_minute_244 (by decide) (fun q244 => ?_) (fun q244 => absurd q244 (by omega))
            refine x_iconst (v := nI 1) M dL_minute_261 (by decide +kernel) ?_
            refine x_goto (tgt := 266) M dL_minute_262 (by decide) ?_
            refine n_add M dL_minute_266 ?_
            refine x_istore9 M dL_minute_267 ?_
            refine x_iload13 M dL_minute_269 ?_
            refine n_if_eq (tgt := 308) M (by first | omega | exact hB _ _ | exact hC _ _) dL_minute_271 (by decide) (fun q271 => absurd q271 (by omega)) (fun q271 => ?_)
            refine x_iload12 M dL_minute_274 ?_
            refine x_aload0 M dL_minute_276 ?_
            refine x_aload1 M dL_minute_277 ?_
            refine x_iconst (v := nI 3) M dL_minute_278 (by decide +kernel) ?_
            refine x_iload11 M dL_minute_279 ?_
            refine n_add M dL_minute_281 ?_
            refine aCv M TB hcw (by omega) dL_minute_282 ?_
            refine x_callV0 M TB hAA mv_X2_price kw_259 dL_minute_283 (c_price (X := (mnt X).1) hw2) rfl wl_X rfl rfl ⟨by decide, by decide⟩ ⟨by decide, by decide⟩ (Nat.le_of_ble_eq_true rfl) ?_
            rw [mnt_p]
            refine n_icmp_ne (tgt := 407) M (by first | omega | exact hB _ _ | exact hC _ _) (by first | omega | exact hB _ _ | exact hC _ _) dL_minute_286 (by decide) (fun q286 => absurd gp q286) (fun q286 => ?_)
            refine x_aload5 M dL_minute_289 ?_
            refine x_iload11 M dL_minute_291 ?_
            refine eR2 M TB (by omega) (by omega) dL_minute_293 ?_
            refine x_bipush (v := nI 20) M dL_minute_294 (by decide +kernel) ?_
            refine n_icmp_lt (tgt := 407) M (by first | omega | exact hB _ _ | exact hC _ _) (by first | omega | exact hB _ _ | exact hC _ _) dL_minute_296 (by decide) (fun q296 => absurd q296 (by omega)) (fun q296 => ?_)
            refine x_aload6 M dL_minute_299 ?_
            refine x_iload11 M dL_minute_301 ?_
            refine eR3 M TB (by omega) (by omega) dL_minute_303 ?_
            refine x_iconst (v := (-1)) M dL_minute_304 (by decide +kernel) ?_
            refine e_icmp_eq (tgt := 407) M (by first | omega | exact hB _ _ | exact hC _ _) dL_minute_305 (by decide) (fun q305 => absurd q305 go) (fun q305 => ?_)
            refine x_aload0 M dL_minute_308 ?_
            refine x_iload11 M dL_minute_309 ?_
            refine x_callV0 M TB hAA mv_X2_ghosts kw_267 dL_minute_311 (c_ghosts (X := (mnt X).1) hOZ hk3) rfl wl_X rfl rfl ⟨by decide, by decide⟩ ⟨by decide, by decide⟩ (Nat.le_of_ble_eq_true rfl) ?_
            refine x_iload13 M dL_minute_314 ?_
            refine n_if_ne (tgt := 327) M (by first | omega | exact hB _ _ | exact hC _ _) dL_minute_316 (by decide) (fun q316 => ?_) (fun q316 => absurd q316 (by omega))
            refine x_iload14 M dL_minute_327 ?_
            refine n_if_eq (tgt := 336) M (by first | omega | exact hB _ _ | exact hC _ _) dL_minute_329 (by decide) (fun q329 => ?_) (fun q329 => absurd rfl q329)
            refine x_aload4 M dL_minute_336 ?_
            refine x_iload11 M dL_minute_338 ?_
            refine eR1 M TB (by omega) (by omega) dL_minute_340 ?_
            refine x_iload13 M dL_minute_341 ?_
            refine n_add M dL_minute_343 ?_
            refine n_icmp_ne (tgt := 407) M (by first | omega | exact hB _ _ | exact hC _ _) (by first | omega | exact hB _ _ | exact hC _ _) dL_minute_344 (by decide) (fun q344 => absurd q344 (by omega)) (fun q344 => ?_)
            refine x_aload0 M dL_minute_347 ?_
            refine x_iload11 M dL_minute_348 ?_
            refine x_callV0 M TB hAA mv_X2_battery kw_263 dL_minute_350 (c_battery (X := (mnt X).1) hOZ hk3) rfl wl_X rfl rfl ⟨by decide, by decide⟩ ⟨by decide, by decide⟩ (Nat.le_of_ble_eq_true rfl) ?_
            refine x_iload16 M dL_minute_353 ?_
            refine n_if_le (tgt := 365) M (by first | omega | exact hB _ _ | exact hC _ _) dL_minute_355 (by decide) (fun q355 => ?_) (fun q355 => ?_)
            · refine x_iconst (v := nI 0) M dL_minute_365 (by decide +kernel) ?_
              refine n_icmp_ne (tgt := 407) M (by first | omega | exact hB _ _ | exact hC _ _) (by first | omega | exact hB _ _ | exact hC _ _) dL_minute_366 (by decide) (fun q366 => absurd q366 (by omega)) (fun q366 => ?_)
              refine x_aload0 M dL_minute_369 ?_
              refine x_iload11 M dL_minute_370 ?_
              refine x_callV0 M TB hAA mv_X2_order kw_271 dL_minute_372 (c_order (X := (mnt X).1) hOZ hk3) rfl wl_X rfl rfl ⟨by decide, by decide⟩ ⟨by decide, by decide⟩ (Nat.le_of_ble_eq_true rfl) ?_
              refine x_aload6 M dL_minute_375 ?_
              refine x_iload11 M dL_minute_377 ?_
              refine eR3 M TB (by omega) (by omega) dL_minute_379 ?_
              refine ee_icmp_eq (tgt := 403) M (by first | omega | exact hB _ _ | exact hC _ _) (by first | omega | exact hB _ _ | exact hC _ _) dL_minute_380 (by decide) (fun q380 => ?_) (fun q380 => absurd h8 q380)
              refine x_iconst (v := nI 1) M dL_minute_403 (by decide +kernel) ?_
              refine x_goto (tgt := 408) M dL_minute_404 (by decide) ?_
              refine x_istore10 M dL_minute_408 ?_
              refine n_inc11 M dL_minute_410 ?_
              refine x_goto (tgt := 155) M dL_minute_413 (by decide) ?_
              rw [show acs X k + 1 = acs X (k + 1) by omega]
              exact ih (k + 1) _ _ _ _ _ (by omega)
            · refine x_iload16 M dL_minute_358 ?_
              refine x_iconst (v := nI 1) M dL_minute_360 (by decide +kernel) ?_
              refine n_sub M (by omega) dL_minute_361 ?_
              refine x_goto (tgt := 366) M dL_minute_362 (by decide) ?_
              refine n_icmp_ne (tgt := 407) M (by first | omega | exact hB _ _ | exact hC _ _) (by first | omega | exact hB _ _ | exact hC _ _) dL_minute_366 (by decide) (fun q366 => absurd q366 (by omega)) (fun q366 => ?_)
              refine x_aload0 M dL_minute_369 ?_
              refine x_iload11 M dL_minute_370 ?_
              refine x_callV0 M TB hAA mv_X2_order kw_271 dL_minute_372 (c_order (X := (mnt X).1) hOZ hk3) rfl wl_X rfl rfl ⟨by decide, by decide⟩ ⟨by decide, by decide⟩ (Nat.le_of_ble_eq_true rfl) ?_
              refine x_aload6 M dL_minute_375 ?_
              refine x_iload11 M dL_minute_377 ?_
              refine eR3 M TB (by omega) (by omega) dL_minute_379 ?_
              refine ee_icmp_eq (tgt := 403) M (by first | omega | exact hB _ _ | exact hC _ _) (by first | omega | exact hB _ _ | exact hC _ _) dL_minute_380 (by decide) (fun q380 => ?_) (fun q380 => absurd h8 q380)
              refine x_iconst (v := nI 1) M dL_minute_403 (by decide +kernel) ?_
              refine x_goto (tgt := 408) M dL_minute_404 (by decide) ?_
              refine x_istore10 M dL_minute_408 ?_
              refine n_inc11 M dL_minute_410 ?_
              refine x_goto (tgt := 155) M dL_minute_413 (by decide) ?_
              rw [show acs X k + 1 = acs X (k + 1) by omega]
              exact ih (k + 1) _ _ _ _ _ (by omega)
          · have ha : act X k = 1 := if_pos (Or.inl g0)
            refine x_iload11 M dL_minute_155 ?_
            refine x_aload1 M dL_minute_157 ?_
            refine x_iconst (v := nI 1) M dL_minute_158 (by decide +kernel) ?_
            refine aCv M TB hc1 (by omega) dL_minute_159 ?_
            refine n_icmp_ge (tgt := 416) M (by first | omega | exact hB _ _ | exact hC _ _) (by first | omega | exact hB _ _ | exact hC _ _) dL_minute_160 (by decide) (fun q160 => absurd q160 (by omega)) (fun q160 => ?_)
            refine x_iload10 M dL_minute_163 ?_
            refine n_if_eq (tgt := 416) M (by first | omega | exact hB _ _ | exact hC _ _) dL_minute_165 (by decide) (fun q165 => absurd q165 (by decide)) (fun q165 => ?_)
            refine x_aload0 M dL_minute_168 ?_
            refine x_iload11 M dL_minute_169 ?_
            refine x_callV0 M TB hAA mv_X2_shown kw_250 dL_minute_171 (c_shown (X := (mnt X).1) hOZ hk3) rfl wl_X rfl rfl ⟨by decide, by decide⟩ ⟨by decide, by decide⟩ (Nat.le_of_ble_eq_true rfl) ?_
            refine x_istore12 M rfl dL_minute_174 ?_
            refine x_aload3 M dL_minute_176 ?_
            refine x_iload11 M dL_minute_177 ?_
            refine eR0 M TB (by omega) (by omega) dL_minute_179 ?_
            refine x_iload12 M dL_minute_180 ?_
            refine x_callS0 M TB hAA mv_L_changed kw_370 dL_minute_182 (l_changed (hO.s k) (hOZ.s k)) rfl ⟨by decide, by decide⟩ ⟨by decide, by decide⟩ (Nat.le_of_ble_eq_true rfl) ?_
            refine x_istore13 M dL_minute_185 ?_
            refine x_aload4 M dL_minute_187 ?_
            refine x_iload11 M dL_minute_189 ?_
            refine eR1 M TB (by omega) (by omega) dL_minute_191 ?_
            refine x_iload13 M dL_minute_192 ?_
            refine n_add M dL_minute_194 ?_
            refine x_bipush (v := nI 9) M dL_minute_195 (by decide +kernel) ?_
            refine n_icmp_le (tgt := 204) M (by first | omega | exact hB _ _ | exact hC _ _) (by first | omega | exact hB _ _ | exact hC _ _) dL_minute_197 (by decide) (fun q197 => ?_) (fun q197 => absurd q197 (by omega))
            refine x_iconst (v := nI 0) M dL_minute_204 (by decide +kernel) ?_
            refine x_istore14 M dL_minute_205 ?_
            refine x_iload13 M dL_minute_207 ?_
            refine n_if_ne (tgt := 216) M (by first | omega | exact hB _ _ | exact hC _ _) dL_minute_209 (by decide) (fun q209 => ?_) (fun q209 => absurd q209 (by omega))
            refine x_iload14 M dL_minute_216 ?_
            refine n_if_eq (tgt := 226) M (by first | omega | exact hB _ _ | exact hC _ _) dL_minute_218 (by decide) (fun q218 => ?_) (fun q218 => absurd rfl q218)
            refine x_bipush (v := nI 10) M dL_minute_226 (by decide +kernel) ?_
            refine x_istore15 M dL_minute_228 ?_
            refine x_aload5 M dL_minute_230 ?_
            refine x_iload11 M dL_minute_232 ?_
            refine eR2 M TB (by omega) (by omega) dL_minute_234 ?_
            refine x_iload15 M dL_minute_235 ?_
            refine n_sub M (by omega) dL_minute_237 ?_
            refine x_istore16 M dL_minute_238 ?_
            refine x_iload9 M dL_minute_240 ?_
            refine x_iload13 M dL_minute_242 ?_
            refine n_if_gt (tgt := 261) M (by first | omega | exact hB _ _ | exact hC _ _) dL_minute_244 (by decide) (fun q244 => ?_) (fun q244 => absurd q244 (by omega))
            refine x_iconst (v := nI 1) M dL_minute_261 (by decide +kernel) ?_
            refine x_goto (tgt := 266) M dL_minute_262 (by decide) ?_
            refine n_add M dL_minute_266 ?_
            refine x_istore9 M dL_minute_267 ?_
            refine x_iload13 M dL_minute_269 ?_
            refine n_if_eq (tgt := 308) M (by first | omega | exact hB _ _ | exact hC _ _) dL_minute_271 (by decide) (fun q271 => absurd q271 (by omega)) (fun q271 => ?_)
            refine x_iload12 M dL_minute_274 ?_
            refine x_aload0 M dL_minute_276 ?_
            refine x_aload1 M dL_minute_277 ?_
            refine x_iconst (v := nI 3) M dL_minute_278 (by decide +kernel) ?_
            refine x_iload11 M dL_minute_279 ?_
            refine n_add M dL_minute_281 ?_
            refine aCv M TB hcw (by omega) dL_minute_282 ?_
            refine x_callV0 M TB hAA mv_X2_price kw_259 dL_minute_283 (c_price (X := (mnt X).1) hw2) rfl wl_X rfl rfl ⟨by decide, by decide⟩ ⟨by decide, by decide⟩ (Nat.le_of_ble_eq_true rfl) ?_
            rw [mnt_p]
            refine n_icmp_ne (tgt := 407) M (by first | omega | exact hB _ _ | exact hC _ _) (by first | omega | exact hB _ _ | exact hC _ _) dL_minute_286 (by decide) (fun q286 => absurd gp q286) (fun q286 => ?_)
            refine x_aload5 M dL_minute_289 ?_
            refine x_iload11 M dL_minute_291 ?_
            refine eR2 M TB (by omega) (by omega) dL_minute_293 ?_
            refine x_bipush (v := nI 20) M dL_minute_294 (by decide +kernel) ?_
            refine n_icmp_lt (tgt := 407) M (by first | omega | exact hB _ _ | exact hC _ _) (by first | omega | exact hB _ _ | exact hC _ _) dL_minute_296 (by decide) (fun q296 => absurd q296 (by omega)) (fun q296 => ?_)
            refine x_aload6 M dL_minute_299 ?_
            refine x_iload11 M dL_minute_301 ?_
            refine eR3 M TB (by omega) (by omega) dL_minute_303 ?_
            refine x_iconst (v := (-1)) M dL_minute_304 (by decide +kernel) ?_
            refine e_icmp_eq (tgt := 407) M (by first | omega | exact hB _ _ | exact hC _ _) dL_minute_305 (by decide) (fun q305 => absurd q305 go) (fun q305 => ?_)
            refine x_aload0 M dL_minute_308 ?_
            refine x_iload11 M dL_minute_309 ?_
            refine x_callV0 M TB hAA mv_X2_ghosts kw_267 dL_minute_311 (c_ghosts (X := (mnt X).1) hOZ hk3) rfl wl_X rfl rfl ⟨by decide, by decide⟩ ⟨by decide, by decide⟩ (Nat.le_of_ble_eq_true rfl) ?_
            refine x_iload13 M dL_minute_314 ?_
            refine n_if_ne (tgt := 327) M (by first | omega | exact hB _ _ | exact hC _ _) dL_minute_316 (by decide) (fun q316 => ?_) (fun q316 => absurd q316 (by omega))
            refine x_iload14 M dL_minute_327 ?_
            refine n_if_eq (tgt := 336) M (by first | omega | exact hB _ _ | exact hC _ _) dL_minute_329 (by decide) (fun q329 => ?_) (fun q329 => absurd rfl q329)
            refine x_aload4 M dL_minute_336 ?_
            refine x_iload11 M dL_minute_338 ?_
            refine eR1 M TB (by omega) (by omega) dL_minute_340 ?_
            refine x_iload13 M dL_minute_341 ?_
            refine n_add M dL_minute_343 ?_
            refine n_icmp_ne (tgt := 407) M (by first | omega | exact hB _ _ | exact hC _ _) (by first | omega | exact hB _ _ | exact hC _ _) dL_minute_344 (by decide) (fun q344 => absurd q344 (by omega)) (fun q344 => ?_)
            refine x_aload0 M dL_minute_347 ?_
            refine x_iload11 M dL_minute_348 ?_
            refine x_callV0 M TB hAA mv_X2_battery kw_263 dL_minute_350 (c_battery (X := (mnt X).1) hOZ hk3) rfl wl_X rfl rfl ⟨by decide, by decide⟩ ⟨by decide, by decide⟩ (Nat.le_of_ble_eq_true rfl) ?_
            refine x_iload16 M dL_minute_353 ?_
            refine n_if_le (tgt := 365) M (by first | omega | exact hB _ _ | exact hC _ _) dL_minute_355 (by decide) (fun q355 => ?_) (fun q355 => ?_)
            · refine x_iconst (v := nI 0) M dL_minute_365 (by decide +kernel) ?_
              refine n_icmp_ne (tgt := 407) M (by first | omega | exact hB _ _ | exact hC _ _) (by first | omega | exact hB _ _ | exact hC _ _) dL_minute_366 (by decide) (fun q366 => absurd q366 (by omega)) (fun q366 => ?_)
              refine x_aload0 M dL_minute_369 ?_
              refine x_iload11 M dL_minute_370 ?_
              refine x_callV0 M TB hAA mv_X2_order kw_271 dL_minute_372 (c_order (X := (mnt X).1) hOZ hk3) rfl wl_X rfl rfl ⟨by decide, by decide⟩ ⟨by decide, by decide⟩ (Nat.le_of_ble_eq_true rfl) ?_
              refine x_aload6 M dL_minute_375 ?_
              refine x_iload11 M dL_minute_377 ?_
              refine eR3 M TB (by omega) (by omega) dL_minute_379 ?_
              refine ee_icmp_eq (tgt := 403) M (by first | omega | exact hB _ _ | exact hC _ _) (by first | omega | exact hB _ _ | exact hC _ _) dL_minute_380 (by decide) (fun q380 => absurd q380 (by omega)) (fun q380 => ?_)
              refine x_aload0 M dL_minute_383 ?_
              refine x_iload11 M dL_minute_384 ?_
              refine x_callV0 M TB hAA mv_X2_order kw_271 dL_minute_386 (c_order (X := (mnt X).1) hOZ hk3) rfl wl_X rfl rfl ⟨by decide, by decide⟩ ⟨by decide, by decide⟩ (Nat.le_of_ble_eq_true rfl) ?_
              refine x_iconst (v := (-1)) M dL_minute_389 (by decide +kernel) ?_
              refine e_icmp_ne (tgt := 407) M (by first | omega | exact hB _ _ | exact hC _ _) dL_minute_390 (by decide) (fun q390 => absurd h8 q390) (fun q390 => ?_)
              refine x_aload5 M dL_minute_393 ?_
              refine x_iload11 M dL_minute_395 ?_
              refine eR2 M TB (by omega) (by omega) dL_minute_397 ?_
              refine x_bipush (v := nI 20) M dL_minute_398 (by decide +kernel) ?_
              refine n_icmp_lt (tgt := 407) M (by first | omega | exact hB _ _ | exact hC _ _) (by first | omega | exact hB _ _ | exact hC _ _) dL_minute_400 (by decide) (fun q400 => absurd q400 (by omega)) (fun q400 => ?_)
              refine x_iconst (v := nI 1) M dL_minute_403 (by decide +kernel) ?_
              refine x_goto (tgt := 408) M dL_minute_404 (by decide) ?_
              refine x_istore10 M dL_minute_408 ?_
              refine n_inc11 M dL_minute_410 ?_
              refine x_goto (tgt := 155) M dL_minute_413 (by decide) ?_
              rw [show acs X k + 1 = acs X (k + 1) by omega]
              exact ih (k + 1) _ _ _ _ _ (by omega)
            · refine x_iload16 M dL_minute_358 ?_
              refine x_iconst (v := nI 1) M dL_minute_360 (by decide +kernel) ?_
              refine n_sub M (by omega) dL_minute_361 ?_
              refine x_goto (tgt := 366) M dL_minute_362 (by decide) ?_
              refine n_icmp_ne (tgt := 407) M (by first | omega | exact hB _ _ | exact hC _ _) (by first | omega | exact hB _ _ | exact hC _ _) dL_minute_366 (by decide) (fun q366 => absurd q366 (by omega)) (fun q366 => ?_)
              refine x_aload0 M dL_minute_369 ?_
              refine x_iload11 M dL_minute_370 ?_
              refine x_callV0 M TB hAA mv_X2_order kw_271 dL_minute_372 (c_order (X := (mnt X).1) hOZ hk3) rfl wl_X rfl rfl ⟨by decide, by decide⟩ ⟨by decide, by decide⟩ (Nat.le_of_ble_eq_true rfl) ?_
              refine x_aload6 M dL_minute_375 ?_
              refine x_iload11 M dL_minute_377 ?_
              refine eR3 M TB (by omega) (by omega) dL_minute_379 ?_
              refine ee_icmp_eq (tgt := 403) M (by first | omega | exact hB _ _ | exact hC _ _) (by first | omega | exact hB _ _ | exact hC _ _) dL_minute_380 (by decide) (fun q380 => absurd q380 (by omega)) (fun q380 => ?_)
              refine x_aload0 M dL_minute_383 ?_
              refine x_iload11 M dL_minute_384 ?_
              refine x_callV0 M TB hAA mv_X2_order kw_271 dL_minute_386 (c_order (X := (mnt X).1) hOZ hk3) rfl wl_X rfl rfl ⟨by decide, by decide⟩ ⟨by decide, by decide⟩ (Nat.le_of_ble_eq_true rfl) ?_
              refine x_iconst (v := (-1)) M dL_minute_389 (by decide +kernel) ?_
              refine e_icmp_ne (tgt := 407) M (by first | omega | exact hB _ _ | exact hC _ _) dL_minute_390 (by decide) (fun q390 => absurd h8 q390) (fun q390 => ?_)
              refine x_aload5 M dL_minute_393 ?_
              refine x_iload11 M dL_minute_395 ?_
              refine eR2 M TB (by omega) (by omega) dL_minute_397 ?_
              refine x_bipush (v := nI 20) M dL_minute_398 (by decide +kernel) ?_
              refine n_icmp_lt (tgt := 407) M (by first | omega | exact hB _ _ | exact hC _ _) (by first | omega | exact hB _ _ | exact hC _ _) dL_minute_400 (by decide) (fun q400 => absurd q400 (by omega)) (fun q400 => ?_)
              refine x_iconst (v := nI 1) M dL_minute_403 (by decide +kernel) ?_
              refine x_goto (tgt := 408) M dL_minute_404 (by decide) ?_
              refine x_istore10 M dL_minute_408 ?_
              refine n_inc11 M dL_minute_410 ?_
              refine x_goto (tgt := 155) M dL_minute_413 (by decide) ?_
              rw [show acs X k + 1 = acs X (k + 1) by omega]
              exact ih (k + 1) _ _ _ _ _ (by omega)
    have loop1 : ∀ (d k : Nat), k + d = X 0 0 → x_X p l e rm_L_minute s m args below meth c D A 17 4 48 (MQ below (x_Qc D A (some (.int (nI 1))) (wl kc ad (mnt X).1 (cS (mnt X).1) (hS (mnt X).1) [])) args s rm_L_minute.cells rm_L_minute.slots A) (wl kc ad X (cS X) (hS X) (exM kc a0 a1 a2 a3 X k k k k)) 26 [some (.ref (ad 0)), some (.ref (ad 6)), some (.ref (ad 7)), some (.ref a0), some (.ref a1), some (.ref a2), some (.ref a3), some (.int (nI k)), none, none, none, none, none, none, none, none, none] [] := by
      intro d
      induction d with
      | zero =>
        intro k hk
        obtain rfl : k = X 0 0 := by omega
        have hc1 : cS X 0 1 = X 0 0 := rfl
        have hc0 : cS X 0 0 = X 0 1 := rfl
        refine x_iload7 M dL_minute_26 ?_
        refine x_aload1 M dL_minute_28 ?_
        refine x_iconst (v := nI 1) M dL_minute_29 (by decide +kernel) ?_
        refine aCv M TB hc1 (by omega) dL_minute_30 ?_
        refine n_icmp_ge (tgt := 83) M (by first | omega | exact hB _ _ | exact hC _ _) (by first | omega | exact hB _ _ | exact hC _ _) dL_minute_31 (by decide) (fun q31 => ?_) (fun q31 => absurd q31 (by omega))
        refine x_aload0 M dL_minute_83 ?_
        refine x_callV0 M TB hAA mv_X2_orders kw_110 dL_minute_84 (c_orders hO) rfl wl_X rfl rfl ⟨by decide, by decide⟩ ⟨by decide, by decide⟩ (Nat.le_of_ble_eq_true rfl) ?_
        refine x_istore7 M dL_minute_87 ?_
        refine x_aload0 M dL_minute_89 ?_
        refine x_iconst (v := nI 1) M dL_minute_90 (by decide +kernel) ?_
        refine x_callV0 M TB hAA mv_X2_pass kw_329 dL_minute_91 (c_pass hO (n := 1) (by decide) (by decide) (by omega)) rfl wl_X rfl rfl ⟨by decide, by decide⟩ ⟨by decide, by decide⟩ (Nat.le_of_ble_eq_true rfl) ?_
        rw [show (mnts X 1).2 = (mnt X).2 from Nat.zero_add _, show (mnts X 1).1 = (mnt X).1 from rfl]
        refine x_istore8 M dL_minute_94 ?_
        refine x_iconst (v := nI 0) M dL_minute_96 (by decide +kernel) ?_
        refine x_istore9 M dL_minute_97 ?_
        refine x_iload8 M dL_minute_99 ?_
        refine n_if_lt (tgt := 142) M (by first | omega | exact hB _ _ | exact hC _ _) dL_minute_101 (by decide) (fun q101 => q101.elim) (fun q101 => ?_)
        refine x_iload8 M dL_minute_104 ?_
        refine x_iconst (v := nI 2) M dL_minute_106 (by decide +kernel) ?_
        refine n_icmp_gt (tgt := 142) M (by first | omega | exact hB _ _ | exact hC _ _) (by first | omega | exact hB _ _ | exact hC _ _) dL_minute_107 (by decide) (fun q107 => absurd q107 (by omega)) (fun q107 => ?_)
        refine x_iload8 M dL_minute_110 ?_
        refine x_iload7 M dL_minute_112 ?_
        refine n_icmp_gt (tgt := 142) M (by first | omega | exact hB _ _ | exact hC _ _) (by first | omega | exact hB _ _ | exact hC _ _) dL_minute_114 (by decide) (fun q114 => absurd q114 (by omega)) (fun q114 => ?_)
        refine x_aload0 M dL_minute_117 ?_
        refine x_callV0 M TB hAA mv_X2_orders kw_110 dL_minute_118 (c_orders (X := (mnt X).1) hOZ) rfl wl_X rfl rfl ⟨by decide, by decide⟩ ⟨by decide, by decide⟩ (Nat.le_of_ble_eq_true rfl) ?_
        rw [mnt_0]
        refine x_iload7 M dL_minute_121 ?_
        refine n_icmp_gt (tgt := 142) M (by first | omega | exact hB _ _ | exact hC _ _) (by first | omega | exact hB _ _ | exact hC _ _) dL_minute_123 (by decide) (fun q123 => absurd q123 (by omega)) (fun q123 => ?_)
        refine x_aload0 M dL_minute_126 ?_
        refine x_callV0 M TB hAA mv_X2_orders kw_110 dL_minute_127 (c_orders (X := (mnt X).1) hOZ) rfl wl_X rfl rfl ⟨by decide, by decide⟩ ⟨by decide, by decide⟩ (Nat.le_of_ble_eq_true rfl) ?_
        rw [mnt_0]
        refine x_iload7 M dL_minute_130 ?_
        refine x_iload8 M dL_minute_132 ?_
        refine n_sub M (by omega) dL_minute_134 ?_
        refine n_icmp_lt (tgt := 142) M (by first | omega | exact hB _ _ | exact hC _ _) (by first | omega | exact hB _ _ | exact hC _ _) dL_minute_135 (by decide) (fun q135 => absurd q135 (by omega)) (fun q135 => ?_)
        refine x_iconst (v := nI 1) M dL_minute_138 (by decide +kernel) ?_
        refine x_goto (tgt := 143) M dL_minute_139 (by decide) ?_
        refine x_istore10 M dL_minute_143 ?_
        refine x_aload1 M dL_minute_145 ?_
        refine x_iconst (v := nI 0) M dL_minute_146 (by decide +kernel) ?_
        refine x_dup2 M dL_minute_147 rfl rfl ?_
        refine aCv M TB hc0 (by omega) dL_minute_148 ?_
        refine x_iconst (v := nI 1) M dL_minute_149 (by decide +kernel) ?_
        refine n_add M dL_minute_150 ?_
        refine sC M TB (by omega) dL_minute_151 ?_
        rw [cM_0]
        refine x_iconst (v := nI 0) M dL_minute_152 (by decide +kernel) ?_
        refine x_istore11 M dL_minute_153 ?_
        exact loop2 (X 0 0) 0 _ _ _ _ _ (by omega)
      | succ d ih =>
        intro k hk
        have hk2 : k < X 0 0 := by omega
        have hc1 : cS X 0 1 = X 0 0 := rfl
        refine x_iload7 M dL_minute_26 ?_
        refine x_aload1 M dL_minute_28 ?_
        refine x_iconst (v := nI 1) M dL_minute_29 (by decide +kernel) ?_
        refine aCv M TB hc1 (by omega) dL_minute_30 ?_
        refine n_icmp_ge (tgt := 83) M (by first | omega | exact hB _ _ | exact hC _ _) (by first | omega | exact hB _ _ | exact hC _ _) dL_minute_31 (by decide) (fun q31 => absurd q31 (by omega)) (fun q31 => ?_)
        refine x_aload3 M dL_minute_34 ?_
        refine x_iload7 M dL_minute_35 ?_
        refine x_aload0 M dL_minute_37 ?_
        refine x_iload7 M dL_minute_38 ?_
        refine x_callV0 M TB hAA mv_X2_shown kw_250 dL_minute_40 (c_shown (X := X) hO hk2) rfl wl_X rfl rfl ⟨by decide, by decide⟩ ⟨by decide, by decide⟩ (Nat.le_of_ble_eq_true rfl) ?_
        refine eW0 M TB (by omega) dL_minute_43 ?_
        refine x_aload4 M dL_minute_44 ?_
        refine x_iload7 M dL_minute_46 ?_
        refine x_aload0 M dL_minute_48 ?_
        refine x_iload7 M dL_minute_49 ?_
        refine x_callV0 M TB hAA mv_X2_ghosts kw_267 dL_minute_51 (c_ghosts (X := X) hO hk2) rfl wl_X rfl rfl ⟨by decide, by decide⟩ ⟨by decide, by decide⟩ (Nat.le_of_ble_eq_true rfl) ?_
        refine eW1 M TB (by omega) dL_minute_54 ?_
        refine x_aload5 M dL_minute_55 ?_
        refine x_iload7 M dL_minute_57 ?_
        refine x_aload0 M dL_minute_59 ?_
        refine x_iload7 M dL_minute_60 ?_
        refine x_callV0 M TB hAA mv_X2_battery kw_263 dL_minute_62 (c_battery (X := X) hO hk2) rfl wl_X rfl rfl ⟨by decide, by decide⟩ ⟨by decide, by decide⟩ (Nat.le_of_ble_eq_true rfl) ?_
        refine eW2 M TB (by omega) dL_minute_65 ?_
        refine x_aload6 M dL_minute_66 ?_
        refine x_iload7 M dL_minute_68 ?_
        refine x_aload0 M dL_minute_70 ?_
        refine x_iload7 M dL_minute_71 ?_
        refine x_callV0 M TB hAA mv_X2_order kw_271 dL_minute_73 (c_order (X := X) hO hk2) rfl wl_X rfl rfl ⟨by decide, by decide⟩ ⟨by decide, by decide⟩ (Nat.le_of_ble_eq_true rfl) ?_
        refine eW3 M TB (by omega) dL_minute_76 ?_
        refine n_inc7 M dL_minute_77 ?_
        refine x_goto (tgt := 26) M dL_minute_80 (by decide) ?_
        exact ih (k + 1) (by omega)
    exact loop1 (X 0 0) 0 (by omega)
  refine x_bipush (v := nI 12) M dL_minute_0 (by decide +kernel) ?_
  refine x_newI M TB hAA (by decide) dL_minute_2 ⟨by decide, by decide⟩ (fun a0 => ?_)
  refine x_astore3 M dL_minute_4 ?_
  refine x_bipush (v := nI 12) M dL_minute_5 (by decide +kernel) ?_
  refine x_newI M TB hAA (by decide) dL_minute_7 ⟨by decide, by decide⟩ (fun a1 => ?_)
  refine x_astore4 M dL_minute_9 ?_
  refine x_bipush (v := nI 12) M dL_minute_11 (by decide +kernel) ?_
  refine x_newI M TB hAA (by decide) dL_minute_13 ⟨by decide, by decide⟩ (fun a2 => ?_)
  refine x_astore5 M dL_minute_15 ?_
  refine x_bipush (v := nI 12) M dL_minute_17 (by decide +kernel) ?_
  refine x_newI M TB hAA (by decide) dL_minute_19 ⟨by decide, by decide⟩ (fun a3 => ?_)
  refine x_astore6 M dL_minute_21 ?_
  refine x_ws (show _ = wl kc ad X (cS X) (hS X) (exM kc a0 a1 a2 a3 X 0 0 0 0) from by rw [exM_0, wl_app, wl_app, wl_app, wl_app]; rfl) ?_
  refine x_iconst (v := nI 0) M dL_minute_23 (by decide +kernel) ?_
  refine x_istore7 M dL_minute_24 ?_
  exact l1 a0 a1 a2 a3
end XM
