/-! THE LAW: its loop, and its body from the entry -/
section XL
variable {p : Program} {l : Launch} {e : Env} {s : State} {m : MethodId} {below : List Frame} {meth : Method} {c : Code} {D : va_G} {A : Nat → Prop} {kc : Nat → ClassId} {ad : Nat → Nat} {b L : Nat} {xs : Nat → Int32}
theorem x_lawEnd (M : CallFix p m c cL_law 7 s #[Value.ref b] gw RL) (TB : x_TB D kc s) (hAA : ∀ q : Nat, s.heap.size ≤ q → A q) (hX : va_X b L xs s s.heap) (hbl : b < s.heap.size) (hbA : ¬ A b) (hL : L ≤ 260) (hAle : ∀ q : Nat, A q → s.heap.size ≤ q) (hr : meth.sig.returnType = ret) (hlocks : meth.locks = false) {cells slots : Nat} {ws : va_W} {ls : List (Option Value)} (hc : cells ≤ 600172 ∧ slots ≤ 7300668) : x_X p l e room_1 s m #[Value.ref b] below meth c D A 7 cells slots (lw_Z below #[Value.ref b] s) ws 160 ls [.int (nI 1)] := fun H locs la hP hD hS hl =>
  W.widen hc.1 hc.2 (va_forget (fun q hq => hAle _ (hS.2.2 q hq)) (lw_ret M.1 M.2.1 hr hlocks dL_law_160))
set_option maxRecDepth 20000 in
set_option maxHeartbeats 2000000 in
theorem law_loop (M : CallFix p m c cL_law 7 s #[Value.ref b] gw RL) (TB : x_TB D kc s) (hAA : ∀ q : Nat, s.heap.size ≤ q → A q) (hX : va_X b L xs s s.heap) (hbl : b < s.heap.size) (hbA : ¬ A b) (hL : L ≤ 260) (hAle : ∀ q : Nat, A q → s.heap.size ≤ q) (hr : meth.sig.returnType = ret) (hlocks : meth.locks = false) {n : Nat} (hn70 : n ≤ 70) : ∀ (d k : Nat) (X : St), k + d = n → Iv X (25 * k) (12 * k) → x_X p l e room_1 s m #[Value.ref b] below meth c D A 7 (80 + 100 * k) (998 + 1200 * k) (lw_Z below #[Value.ref b] s) (wl kc ad X (cS X) (hS X) []) 87 [some (.ref b), some (.ref (ad 0)), some (.ref (ad 6)), some (.ref (ad 7)), some (.int (nI 1)), some (.int (nI n)), some (.int (nI k))] [] := by
  intro d
  induction d with
  | zero =>
    intro k X hk hI
    refine x_iload6 M dL_law_87 ?_
    refine x_iload5 M dL_law_89 ?_
    refine n_icmp_ge (tgt := 158) M (by first | omega | exact hB _ _ | exact hC _ _) (by first | omega | exact hB _ _ | exact hC _ _) dL_law_91 (by decide) (fun q91 => ?_) (fun q91 => absurd q91 (by omega))
    refine x_iload4 M dL_law_158 ?_
    exact x_lawEnd M TB hAA hX hbl hbA hL hAle hr hlocks ⟨by omega, by omega⟩
  | succ d ih =>
    intro k X hk hI
    refine x_iload6 M dL_law_87 ?_
    refine x_iload5 M dL_law_89 ?_
    refine n_icmp_ge (tgt := 158) M (by first | omega | exact hB _ _ | exact hC _ _) (by first | omega | exact hB _ _ | exact hC _ _) dL_law_91 (by decide) (fun q91 => absurd q91 (by omega)) (fun q91 => ?_)
    refine x_iload4 M dL_law_94 ?_
    refine n_if_eq (tgt := 158) M (by first | omega | exact hB _ _ | exact hC _ _) dL_law_96 (by decide) (fun q96 => absurd q96 (by decide)) (fun q96 => ?_)
    refine x_aload1 M dL_law_99 ?_
    refine x_aload2 M dL_law_100 ?_
    refine x_aload3 M dL_law_101 ?_
    refine x_aload0 M dL_law_102 ?_
    refine x_iconst (v := nI 3) M dL_law_103 (by decide +kernel) ?_
    refine x_iload6 M dL_law_104 ?_
    refine n_mul M dL_law_106 ?_
    refine x_callSX M TB hAA hX hbl hbA mv_L_draw kw_221 dL_law_107 (l_draw (k := 3 * k) (by omega) hL) rfl ⟨by decide, by decide⟩ ⟨⟨rfl, rfl⟩, by show 80 + 100 * k ≤ 600172; omega, by show 998 + 1200 * k ≤ 7300668; omega⟩ (Nat.le_of_ble_eq_true rfl) ?_
    refine x_aload0 M dL_law_110 ?_
    refine x_iconst (v := nI 3) M dL_law_111 (by decide +kernel) ?_
    refine x_iload6 M dL_law_112 ?_
    refine n_mul M dL_law_114 ?_
    refine x_iconst (v := nI 1) M dL_law_115 (by decide +kernel) ?_
    refine n_add M dL_law_116 ?_
    refine x_callSX M TB hAA hX hbl hbA mv_L_draw kw_221 dL_law_117 (l_draw (k := 3 * k + 1) (by omega) hL) rfl ⟨by decide, by decide⟩ ⟨⟨rfl, rfl⟩, by show 80 + 100 * k ≤ 600172; omega, by show 998 + 1200 * k ≤ 7300668; omega⟩ (Nat.le_of_ble_eq_true rfl) ?_
    refine x_aload0 M dL_law_120 ?_
    refine x_iconst (v := nI 3) M dL_law_121 (by decide +kernel) ?_
    refine x_iload6 M dL_law_122 ?_
    refine n_mul M dL_law_124 ?_
    refine x_iconst (v := nI 2) M dL_law_125 (by decide +kernel) ?_
    refine n_add M dL_law_126 ?_
    refine x_callSX M TB hAA hX hbl hbA mv_L_draw kw_221 dL_law_127 (l_draw (k := 3 * k + 2) (by omega) hL) rfl ⟨by decide, by decide⟩ ⟨⟨rfl, rfl⟩, by show 80 + 100 * k ≤ 600172; omega, by show 998 + 1200 * k ≤ 7300668; omega⟩ (Nat.le_of_ble_eq_true rfl) ?_
    refine x_callSP M TB hAA mv_L_step kw_227 dL_law_130 (l_step hI (by omega) (by omega) (drw_lt xs L _) (drw_lt xs L _) (drw_lt xs L _)) rfl ⟨by decide, by decide⟩ ⟨by show 80 + 100 * k + 100 ≤ 600172; omega, by show 998 + 1200 * k + 1200 ≤ 7300668; omega⟩ (Nat.le_of_ble_eq_true rfl) ?_
    rintro _ ⟨T, hT, rfl⟩
    refine n_if_eq (tgt := 149) M (by first | omega | exact hB _ _ | exact hC _ _) dL_law_133 (by decide) (fun q133 => absurd q133 (by decide)) (fun q133 => ?_)
    refine x_aload1 M dL_law_136 ?_
    refine x_aload2 M dL_law_137 ?_
    refine x_aload3 M dL_law_138 ?_
    refine x_callS0 M TB hAA mv_L_isTill kw_376 dL_law_139 (l_till hT) rfl ⟨by decide, by decide⟩ ⟨⟨rfl, rfl⟩, by show 80 + 100 * k + 100 ≤ 600172; omega, by show 998 + 1200 * k + 1200 ≤ 7300668; omega⟩ (Nat.le_of_ble_eq_true rfl) ?_
    refine n_if_eq (tgt := 149) M (by first | omega | exact hB _ _ | exact hC _ _) dL_law_142 (by decide) (fun q142 => absurd q142 (by decide)) (fun q142 => ?_)
    refine x_iconst (v := nI 1) M dL_law_145 (by decide +kernel) ?_
    refine x_goto (tgt := 150) M dL_law_146 (by decide) ?_
    refine x_istore4 M dL_law_150 ?_
    refine n_inc6 M dL_law_152 ?_
    refine x_goto (tgt := 87) M dL_law_155 (by decide) ?_
    exact x_widen (by show 80 + 100 * k + 100 ≤ 80 + 100 * (k + 1); omega) (by show 998 + 1200 * k + 1200 ≤ 998 + 1200 * (k + 1); omega) (ih (k + 1) T (by omega) (Iv_w hT (by omega) (by omega)))
set_option maxRecDepth 20000 in
set_option maxHeartbeats 2000000 in
theorem law_mid (M : CallFix p m c cL_law 7 s #[Value.ref b] gw RL) (TB : x_TB D kc s) (hAA : ∀ q : Nat, s.heap.size ≤ q → A q) (hX : va_X b L xs s s.heap) (hbl : b < s.heap.size) (hbA : ¬ A b) (hL : L ≤ 260) (hAle : ∀ q : Nat, A q → s.heap.size ≤ q) (hr : meth.sig.returnType = ret) (hlocks : meth.locks = false) : x_X p l e room_1 s m #[Value.ref b] below meth c D A 7 80 998 (lw_Z below #[Value.ref b] s) (wl kc ad S0 (cS S0) (hS S0) []) 18 [some (.ref b), some (.ref (ad 0)), some (.ref (ad 6)), some (.ref (ad 7)), none, none, none] [] := by
  have hO := Iv_0.1
  have hn : S0 0 0 ≤ 12 := by decide
  have J82 : ∀ n, n ≤ 70 → x_X p l e room_1 s m #[Value.ref b] below meth c D A 7 80 998 (lw_Z below #[Value.ref b] s) (wl kc ad S0 (cS S0) (hS S0) []) 82 [some (.ref b), some (.ref (ad 0)), some (.ref (ad 6)), some (.ref (ad 7)), some (.int (nI 1)), none, none] [.int (nI n)] := by
    intro n hn
    refine x_istore5 M dL_law_82 ?_
    refine x_iconst (v := nI 0) M dL_law_84 (by decide +kernel) ?_
    refine x_istore6 M dL_law_85 ?_
    exact law_loop M TB hAA hX hbl hbA hL hAle hr hlocks hn n 0 S0 (by omega) Iv_0
  refine x_aload1 M dL_law_18 ?_
  refine x_callV0 M TB hAA mv_X2_time kw_106 dL_law_19 c_time rfl wl_X rfl rfl ⟨by decide, by decide⟩ ⟨by decide, by decide⟩ (Nat.le_of_ble_eq_true rfl) ?_
  rw [show S0 0 1 = 0 from rfl]
  refine n_if_ne (tgt := 61) M (by first | omega | exact hB _ _ | exact hC _ _) dL_law_22 (by decide) (fun q22 => absurd rfl q22) (fun q22 => ?_)
  refine x_aload1 M dL_law_25 ?_
  refine x_callV0 M TB hAA mv_X2_orders kw_110 dL_law_26 (c_orders hO) rfl wl_X rfl rfl ⟨by decide, by decide⟩ ⟨by decide, by decide⟩ (Nat.le_of_ble_eq_true rfl) ?_
  rw [show cnt S0 (S0 0 0) = 0 from rfl]
  refine n_if_ne (tgt := 61) M (by first | omega | exact hB _ _ | exact hC _ _) dL_law_29 (by decide) (fun q29 => absurd rfl q29) (fun q29 => ?_)
  refine x_aload1 M dL_law_32 ?_
  refine x_callV0 M TB hAA mv_X2_nextToSend kw_114 dL_law_33 (c_nextToSend hO.bd hn) rfl wl_X rfl rfl ⟨by decide, by decide⟩ ⟨by decide, by decide⟩ (Nat.le_of_ble_eq_true rfl) ?_
  rw [show oI (nxt S0 (S0 0 0)) = -1 from rfl]
  refine x_iconst (v := (-1)) M dL_law_36 (by decide +kernel) ?_
  refine x_icmp_ne (tgt := 61) M dL_law_37 (by decide) (fun q37 => absurd rfl q37) (fun q37 => ?_)
  refine x_aload1 M dL_law_40 ?_
  refine x_iconst (v := nI 3) M dL_law_41 (by decide +kernel) ?_
  refine x_callV0 M TB hAA mv_X2_asked kw_126 dL_law_42 (c_asked hO (j := 3) (by decide)) rfl wl_X rfl rfl ⟨by decide, by decide⟩ ⟨by decide, by decide⟩ (Nat.le_of_ble_eq_true rfl) ?_
  rw [show min (S0 1 3) (min (lnow S0 3 (S0 0 0)) (lhr S0 3 60)) = 0 from Nat.zero_min _]
  refine n_if_ne (tgt := 61) M (by first | omega | exact hB _ _ | exact hC _ _) dL_law_45 (by decide) (fun q45 => absurd rfl q45) (fun q45 => ?_)
  refine x_aload1 M dL_law_48 ?_
  refine x_iconst (v := nI 0) M dL_law_49 (by decide +kernel) ?_
  refine x_callV0 M TB hAA mv_X2_leastEver kw_213 dL_law_50 (c_leastEver hO (j := 0) (by decide)) rfl wl_X rfl rfl ⟨by decide, by decide⟩ ⟨by decide, by decide⟩ (Nat.le_of_ble_eq_true rfl) ?_
  rw [show em (min (lnow S0 0 (S0 0 0)) (S0 11 0)) = -1 from by rw [show lnow S0 0 (S0 0 0) = 10000 from rfl, show S0 11 0 = 10000 from rfl, Nat.min_self]; exact if_pos rfl]
  refine x_iconst (v := (-1)) M dL_law_53 (by decide +kernel) ?_
  refine x_icmp_ne (tgt := 61) M dL_law_54 (by decide) (fun q54 => absurd rfl q54) (fun q54 => ?_)
  refine x_iconst (v := nI 1) M dL_law_57 (by decide +kernel) ?_
  refine x_goto (tgt := 62) M dL_law_58 (by decide) ?_
  refine x_istore4 M dL_law_62 ?_
  refine x_aload0 M dL_law_64 ?_
  refine x_slen M hX hbl hbA dL_law_65 ?_
  refine x_iconst (v := nI 3) M dL_law_66 (by decide +kernel) ?_
  refine n_div M (by first | omega | exact hB _ _ | exact hC _ _) (by omega) (by first | omega | exact hB _ _ | exact hC _ _) dL_law_67 ?_
  refine x_bipush (v := nI 70) M dL_law_68 (by decide +kernel) ?_
  refine n_icmp_le (tgt := 78) M (by first | omega | exact hB _ _ | exact hC _ _) (by first | omega | exact hB _ _ | exact hC _ _) dL_law_70 (by decide) (fun q70 => ?_) (fun q70 => ?_)
  · refine x_aload0 M dL_law_78 ?_
    refine x_slen M hX hbl hbA dL_law_79 ?_
    refine x_iconst (v := nI 3) M dL_law_80 (by decide +kernel) ?_
    refine n_div M (by first | omega | exact hB _ _ | exact hC _ _) (by omega) (by first | omega | exact hB _ _ | exact hC _ _) dL_law_81 ?_
    exact J82 _ (by omega)
  · refine x_bipush (v := nI 70) M dL_law_73 (by decide +kernel) ?_
    refine x_goto (tgt := 82) M dL_law_75 (by decide) ?_
    exact J82 _ (by omega)
end XL
section XL2
variable {p : Program} {l : Launch} {e : Env} {s : State} {m : MethodId} {below : List Frame} {meth : Method} {c : Code} {D : va_G} {A : Nat → Prop} {kc : Nat → ClassId} {b L : Nat} {xs : Nat → Int32}
set_option maxRecDepth 20000 in
set_option maxHeartbeats 2000000 in
theorem law_body (M : CallFix p m c cL_law 7 s #[Value.ref b] gw RL) (TB : x_TB D kc s) (hAA : ∀ q : Nat, s.heap.size ≤ q → A q) (hX : va_X b L xs s s.heap) (hbl : b < s.heap.size) (hbA : ¬ A b) (hL : L ≤ 260) (hAle : ∀ q : Nat, A q → s.heap.size ≤ q) (hr : meth.sig.returnType = ret) (hlocks : meth.locks = false) : x_X p l e room_1 s m #[Value.ref b] below meth c D A 7 0 0 (lw_Z below #[Value.ref b] s) [] 0 [some (.ref b), none, none, none, none, none, none] [] := by
  refine x_new2 M TB hAA kw_20 dL_law_0 ⟨by decide, by decide⟩ (fun x => ?_)
  refine x_dup M dL_law_3 rfl ?_
  refine x_callI (As := []) (rest := [.ref x]) M TB hAA mv_X2_init kw_22 dL_law_4 c_X_init rfl ⟨by decide, by decide⟩ ⟨by decide, by decide⟩ (Nat.le_of_ble_eq_true rfl) ?_
  rintro _ ⟨q1, q2, h, q, en, r, lab, rfl⟩
  refine x_astore1 M dL_law_7 ?_
  refine x_bipush (v := nI 18) M dL_law_8 (by decide +kernel) ?_
  refine x_newI M TB hAA (by decide) dL_law_10 ⟨by decide, by decide⟩ (fun cq => ?_)
  refine x_astore2 M dL_law_12 ?_
  refine x_bipush (v := nI 60) M dL_law_13 (by decide +kernel) ?_
  refine x_newJ M TB hAA (by decide) dL_law_15 ⟨by decide, by decide⟩ (fun jq => ?_)
  refine x_astore3 M dL_law_17 ?_
  refine x_ws (show _ = LW kc x q1 q2 h q en cq jq r lab from rfl) ?_
  refine x_perm (ws2 := wl kc (adF x q1 q2 h q en cq jq r lab) S0 (cS S0) (hS S0) []) prm ?_ ?_ ?_
  · intro k y hy
    have hk : k < 80 := by rw [← wl_len]; exact (List.getElem?_eq_some_iff.mp hy).1
    rw [wl_at hk] at hy
    rw [LW_wl hk]
    exact hy
  · intro i j hi hj hq
    rw [wl_len] at hi hj
    exact prm_inj hi hj hq
  · exact x_widen (k := 80) (n := 998) (by decide) (by decide) (law_mid M TB hAA hX hbl hbA hL hAle hr hlocks)
end XL2
