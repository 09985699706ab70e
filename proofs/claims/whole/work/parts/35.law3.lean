/-! THE LAW: its cases put together, and its loop -/
theorem lw_ngt {k L : Nat} (hk : k + 3 ≤ L) (hL : L ≤ 1536) : ¬ nI L - nI 3 < nI k := by
  rw [pk_sub (by omega)]
  exact fun q => absurd ((nI_ltI (by omega) (by omega)).mp q) (by omega)
theorem lw_gt {k L : Nat} (hk : L < k + 3) (hL : L ≤ 1536) (hk2 : k < 2 ^ 30) : nI L - nI 3 < nI k := by
  by_cases h : 3 ≤ L
  · rw [pk_sub h]
    exact (nI_ltI (by omega) (by omega)).mpr (by omega)
  · have h0 : (0 : Int32) ≤ nI k := by rw [← nI_0]; exact (nI_leI (by decide) (by omega)).mpr (Nat.zero_le _)
    refine Int32.lt_of_lt_of_le ?_ h0
    rcases (show L = 0 ∨ L = 1 ∨ L = 2 by omega) with rfl | rfl | rfl <;> decide +kernel
section XK
variable {p : Program} {l : Launch} {e : Env} {s : State} {m : MethodId} {below : List Frame} {meth : Method} {c : Code} {D : va_G} {A : Nat → Prop} {kc : Nat → ClassId} {ad : Nat → Nat} {b L k : Nat} {xs : Nat → Int32} {S : St} {th : Nat} {ov : Int64} {l5 l6 : Option Value}
set_option maxRecDepth 20000 in
set_option maxHeartbeats 2000000 in
theorem o_setPrice (M : CallFix p m c cL_law 7 s #[Value.ref b] gw RL) (TB : x_TB D kc A s s.heap) (hAA : ∀ q : Nat, s.heap.size ≤ q → A q) (hX : va_X b L xs s s.heap) (hbl : b < s.heap.size) (hbA : ¬ A b) (hL : L ≤ 1536) (hk : k + 3 ≤ L) (hst0 : l.stackTraces = false) (hI : Iv S k)
    (nx : ∀ (T : St) (z : Nat) (ov2 : Int64) (hw2 : Nat) (l5 l6 : Option Value), Iv T (k + 3) → T 0 0 = hw2 → x_X p l e room_1 s m #[Value.ref b] below meth c D A 7 (200 + (k + 3)) (3000 + 6 * (k + 3)) (lw_Z below #[Value.ref b] s) (wl kc ad T T z ov2 hw2) 1015 [some (.ref b), some (.ref (ad 0)), some (.ref (ad 6)), some (.ref (ad 18)), some (.int (nI k)), l5, l6] []) : x_X p l e room_1 s m #[Value.ref b] below meth c D A 7 (200 + k) (3000 + 6 * k) (lw_Z below #[Value.ref b] s) (wl kc ad S S th ov (S 0 0)) 124 [some (.ref b), some (.ref (ad 0)), some (.ref (ad 6)), some (.ref (ad 18)), some (.int (nI k)), l5, l6] [] := by
  have hO := hI.1
  have hm : S 0 2 + 12 < 2 ^ 30 := by have := hI.2.1; omega
  rcases bad_or 12 (by decide) (xs (k + 1)) with ⟨j, hj, e1⟩ | h
  · rcases within_or 0 9999 (by decide) (by decide) (xs (k + 2)) with ⟨v, -, hv, e2⟩ | h
    · by_cases he : S 1 j = v
      · exact k_setPrice M TB hAA hX hbl hbA hL hk e1 e2 (z := 0) (by decide) ⟨by decide, by decide⟩ ⟨by decide, by decide⟩ (h_setPrice (c_setPrice0 hO hj hv he)) (m_setPrice0 hO hj hv he) (fun _ => rfl) (fun l5 l6 => nx _ _ _ _ l5 l6 (Iv_3 hI) rfl)
      · exact k_setPrice M TB hAA hX hbl hbA hL hk e1 e2 (z := 0) (by decide) ⟨by decide, by decide⟩ ⟨by decide, by decide⟩ (h_setPrice (c_setPrice hO hm hj hv he)) (m_setPrice hO hm hj hv he) (fun _ => rfl) (fun l5 l6 => nx _ _ _ _ l5 l6 (Iv_spl hI (by omega) hv).1 (Iv_spl hI (by omega) hv).2)
    · exact k_setPrice M TB hAA hX hbl hbA hL hk e1 rfl (z := 2) (by decide) ⟨by decide, by decide⟩ ⟨by decide, by decide⟩ (h_setPrice_2 (t_setPrice2 hj h hst0)) (m_setPrice2 hj h) (fun q => absurd q (by decide)) (fun l5 l6 => nx _ _ _ _ l5 l6 (Iv_3 hI) rfl)
  · exact k_setPrice M TB hAA hX hbl hbA hL hk rfl rfl (z := 1) (by decide) ⟨by decide, by decide⟩ ⟨by decide, by decide⟩ (h_setPrice_1 (t_setPrice1 h hst0)) (m_setPrice1 h) (fun q => absurd q (by decide)) (fun l5 l6 => nx _ _ _ _ l5 l6 (Iv_3 hI) rfl)
set_option maxRecDepth 20000 in
set_option maxHeartbeats 2000000 in
theorem o_price (M : CallFix p m c cL_law 7 s #[Value.ref b] gw RL) (TB : x_TB D kc A s s.heap) (hAA : ∀ q : Nat, s.heap.size ≤ q → A q) (hX : va_X b L xs s s.heap) (hbl : b < s.heap.size) (hbA : ¬ A b) (hL : L ≤ 1536) (hk : k + 3 ≤ L) (hst0 : l.stackTraces = false) (hI : Iv S k)
    (nx : ∀ (T : St) (z : Nat) (ov2 : Int64) (hw2 : Nat) (l5 l6 : Option Value), Iv T (k + 3) → T 0 0 = hw2 → x_X p l e room_1 s m #[Value.ref b] below meth c D A 7 (200 + (k + 3)) (3000 + 6 * (k + 3)) (lw_Z below #[Value.ref b] s) (wl kc ad T T z ov2 hw2) 1015 [some (.ref b), some (.ref (ad 0)), some (.ref (ad 6)), some (.ref (ad 18)), some (.int (nI k)), l5, l6] []) : x_X p l e room_1 s m #[Value.ref b] below meth c D A 7 (200 + k) (3000 + 6 * k) (lw_Z below #[Value.ref b] s) (wl kc ad S S th ov (S 0 0)) 192 [some (.ref b), some (.ref (ad 0)), some (.ref (ad 6)), some (.ref (ad 18)), some (.int (nI k)), l5, l6] [] := by
  have hO := hI.1
  rcases bad_or 12 (by decide) (xs (k + 1)) with ⟨j, hj, e1⟩ | h
  · exact k_price M TB hAA hX hbl hbA hL hk e1 (z := 0) (by decide) ⟨by decide, by decide⟩ ⟨by decide, by decide⟩ (h_price (c_price hj)) (m_price hO hj) (fun _ => rfl) (fun l5 l6 => nx _ _ _ _ l5 l6 (Iv_3 hI) rfl)
  · exact k_price M TB hAA hX hbl hbA hL hk rfl (z := 1) (by decide) ⟨by decide, by decide⟩ ⟨by decide, by decide⟩ (h_price_1 (t_price h hst0)) (m_price1 h) (fun q => absurd q (by decide)) (fun l5 l6 => nx _ _ _ _ l5 l6 (Iv_3 hI) rfl)
set_option maxRecDepth 20000 in
set_option maxHeartbeats 2000000 in
theorem o_asked (M : CallFix p m c cL_law 7 s #[Value.ref b] gw RL) (TB : x_TB D kc A s s.heap) (hAA : ∀ q : Nat, s.heap.size ≤ q → A q) (hX : va_X b L xs s s.heap) (hbl : b < s.heap.size) (hbA : ¬ A b) (hL : L ≤ 1536) (hk : k + 3 ≤ L) (hst0 : l.stackTraces = false) (hI : Iv S k)
    (nx : ∀ (T : St) (z : Nat) (ov2 : Int64) (hw2 : Nat) (l5 l6 : Option Value), Iv T (k + 3) → T 0 0 = hw2 → x_X p l e room_1 s m #[Value.ref b] below meth c D A 7 (200 + (k + 3)) (3000 + 6 * (k + 3)) (lw_Z below #[Value.ref b] s) (wl kc ad T T z ov2 hw2) 1015 [some (.ref b), some (.ref (ad 0)), some (.ref (ad 6)), some (.ref (ad 18)), some (.int (nI k)), l5, l6] []) : x_X p l e room_1 s m #[Value.ref b] below meth c D A 7 (200 + k) (3000 + 6 * k) (lw_Z below #[Value.ref b] s) (wl kc ad S S th ov (S 0 0)) 903 [some (.ref b), some (.ref (ad 0)), some (.ref (ad 6)), some (.ref (ad 18)), some (.int (nI k)), l5, l6] [] := by
  have hO := hI.1
  rcases bad_or 12 (by decide) (xs (k + 1)) with ⟨j, hj, e1⟩ | h
  · exact k_asked M TB hAA hX hbl hbA hL hk e1 (z := 0) (by decide) ⟨by decide, by decide⟩ ⟨by decide, by decide⟩ (h_asked (c_asked hO hj)) (m_asked hO hj) (fun _ => rfl) (fun l5 l6 => nx _ _ _ _ l5 l6 (Iv_3 hI) rfl)
  · exact k_asked M TB hAA hX hbl hbA hL hk rfl (z := 1) (by decide) ⟨by decide, by decide⟩ ⟨by decide, by decide⟩ (h_asked_1 (t_asked h hst0)) (m_asked1 h) (fun q => absurd q (by decide)) (fun l5 l6 => nx _ _ _ _ l5 l6 (Iv_3 hI) rfl)
set_option maxRecDepth 20000 in
set_option maxHeartbeats 2000000 in
theorem o_leastEver (M : CallFix p m c cL_law 7 s #[Value.ref b] gw RL) (TB : x_TB D kc A s s.heap) (hAA : ∀ q : Nat, s.heap.size ≤ q → A q) (hX : va_X b L xs s s.heap) (hbl : b < s.heap.size) (hbA : ¬ A b) (hL : L ≤ 1536) (hk : k + 3 ≤ L) (hst0 : l.stackTraces = false) (hI : Iv S k)
    (nx : ∀ (T : St) (z : Nat) (ov2 : Int64) (hw2 : Nat) (l5 l6 : Option Value), Iv T (k + 3) → T 0 0 = hw2 → x_X p l e room_1 s m #[Value.ref b] below meth c D A 7 (200 + (k + 3)) (3000 + 6 * (k + 3)) (lw_Z below #[Value.ref b] s) (wl kc ad T T z ov2 hw2) 1015 [some (.ref b), some (.ref (ad 0)), some (.ref (ad 6)), some (.ref (ad 18)), some (.int (nI k)), l5, l6] []) : x_X p l e room_1 s m #[Value.ref b] below meth c D A 7 (200 + k) (3000 + 6 * k) (lw_Z below #[Value.ref b] s) (wl kc ad S S th ov (S 0 0)) 959 [some (.ref b), some (.ref (ad 0)), some (.ref (ad 6)), some (.ref (ad 18)), some (.int (nI k)), l5, l6] [] := by
  have hO := hI.1
  rcases bad_or 12 (by decide) (xs (k + 1)) with ⟨j, hj, e1⟩ | h
  · exact k_leastEver M TB hAA hX hbl hbA hL hk e1 (z := 0) (by decide) ⟨by decide, by decide⟩ ⟨by decide, by decide⟩ (h_leastEver (c_leastEver hO hj)) (m_leastEver hO hj) (fun _ => rfl) (fun l5 l6 => nx _ _ _ _ l5 l6 (Iv_3 hI) rfl)
  · exact k_leastEver M TB hAA hX hbl hbA hL hk rfl (z := 1) (by decide) ⟨by decide, by decide⟩ ⟨by decide, by decide⟩ (h_leastEver_1 (t_leastEver h hst0)) (m_leastEver1 h) (fun q => absurd q (by decide)) (fun l5 l6 => nx _ _ _ _ l5 l6 (Iv_3 hI) rfl)
set_option maxRecDepth 20000 in
set_option maxHeartbeats 2000000 in
theorem o_hang (M : CallFix p m c cL_law 7 s #[Value.ref b] gw RL) (TB : x_TB D kc A s s.heap) (hAA : ∀ q : Nat, s.heap.size ≤ q → A q) (hX : va_X b L xs s s.heap) (hbl : b < s.heap.size) (hbA : ¬ A b) (hL : L ≤ 1536) (hk : k + 3 ≤ L) (hst0 : l.stackTraces = false) (hI : Iv S k)
    (nx : ∀ (T : St) (z : Nat) (ov2 : Int64) (hw2 : Nat) (l5 l6 : Option Value), Iv T (k + 3) → T 0 0 = hw2 → x_X p l e room_1 s m #[Value.ref b] below meth c D A 7 (200 + (k + 3)) (3000 + 6 * (k + 3)) (lw_Z below #[Value.ref b] s) (wl kc ad T T z ov2 hw2) 1015 [some (.ref b), some (.ref (ad 0)), some (.ref (ad 6)), some (.ref (ad 18)), some (.int (nI k)), l5, l6] []) : x_X p l e room_1 s m #[Value.ref b] below meth c D A 7 (200 + k) (3000 + 6 * k) (lw_Z below #[Value.ref b] s) (wl kc ad S S th ov (S 0 0)) 248 [some (.ref b), some (.ref (ad 0)), some (.ref (ad 6)), some (.ref (ad 18)), some (.int (nI k)), l5, l6] [] := by
  have hO := hI.1
  rcases bad_or 12 (by decide) (xs (k + 1)) with ⟨j, hj, e1⟩ | h
  · by_cases hn : S 0 0 < 12
    · exact k_hang M TB hAA hX hbl hbA hL hk e1 (z := 0) (by decide) ⟨by decide, by decide⟩ ⟨by decide, by decide⟩ (h_hang (c_hang hO hn hj)) (m_hang hO hn (hI.2.2 _ (Nat.le_refl _) hn) hj) (fun _ => rfl) (fun l5 l6 => nx _ _ _ _ l5 l6 (Iv_hng hI hn hj) rfl)
    · exact k_hang M TB hAA hX hbl hbA hL hk e1 (z := 2) (by decide) ⟨by decide, by decide⟩ ⟨by decide, by decide⟩ (h_hang_2 (t_hang2 hO (Nat.le_of_not_lt hn) hj hst0)) (m_hang2 hO (Nat.le_of_not_lt hn) hj) (fun q => absurd q (by decide)) (fun l5 l6 => nx _ _ _ _ l5 l6 (Iv_3 hI) rfl)
  · exact k_hang M TB hAA hX hbl hbA hL hk rfl (z := 1) (by decide) ⟨by decide, by decide⟩ ⟨by decide, by decide⟩ (h_hang_1 (t_hang1 h hst0)) (m_hang1 h) (fun q => absurd q (by decide)) (fun l5 l6 => nx _ _ _ _ l5 l6 (Iv_3 hI) rfl)
set_option maxRecDepth 20000 in
set_option maxHeartbeats 2000000 in
theorem o_carry (M : CallFix p m c cL_law 7 s #[Value.ref b] gw RL) (TB : x_TB D kc A s s.heap) (hAA : ∀ q : Nat, s.heap.size ≤ q → A q) (hX : va_X b L xs s s.heap) (hbl : b < s.heap.size) (hbA : ¬ A b) (hL : L ≤ 1536) (hk : k + 3 ≤ L) (hst0 : l.stackTraces = false) (hI : Iv S k)
    (nx : ∀ (T : St) (z : Nat) (ov2 : Int64) (hw2 : Nat) (l5 l6 : Option Value), Iv T (k + 3) → T 0 0 = hw2 → x_X p l e room_1 s m #[Value.ref b] below meth c D A 7 (200 + (k + 3)) (3000 + 6 * (k + 3)) (lw_Z below #[Value.ref b] s) (wl kc ad T T z ov2 hw2) 1015 [some (.ref b), some (.ref (ad 0)), some (.ref (ad 6)), some (.ref (ad 18)), some (.int (nI k)), l5, l6] []) : x_X p l e room_1 s m #[Value.ref b] below meth c D A 7 (200 + k) (3000 + 6 * k) (lw_Z below #[Value.ref b] s) (wl kc ad S S th ov (S 0 0)) 304 [some (.ref b), some (.ref (ad 0)), some (.ref (ad 6)), some (.ref (ad 18)), some (.int (nI k)), l5, l6] [] := by
  have hO := hI.1
  have hm : S 0 2 + 1 < 2 ^ 30 := by have := hI.2.1; omega
  rcases bad_or (S 0 0) (by have := hO.n; omega) (xs (k + 1)) with ⟨j, hj, e1⟩ | h
  · rcases bad_or 12 (by decide) (xs (k + 2)) with ⟨v, hv, e2⟩ | h
    · by_cases he : S 2 j = v
      · exact k_carry M TB hAA hX hbl hbA hL hk e1 e2 (Pr := False) (z := 2) (by decide) ⟨by decide, by decide⟩ ⟨by decide, by decide⟩ (h_carry_2 (t_carry3 hO hj hv he hst0)) (m_carry3 hO hj hv he) (fun q => absurd q (by decide)) (fun l5 l6 => nx _ _ _ _ l5 l6 (Iv_3 hI) rfl)
      · exact k_carry M TB hAA hX hbl hbA hL hk e1 e2 (z := 0) (by decide) ⟨by decide, by decide⟩ ⟨by decide, by decide⟩ (h_carry (c_carry hO hj hv he)) (m_carry hO hj hm hv he) (fun _ => rfl) (fun l5 l6 => nx _ _ _ _ l5 l6 (Iv_car hI (by omega) hv).1 (Iv_car hI (by omega) hv).2)
    · exact k_carry M TB hAA hX hbl hbA hL hk e1 rfl (Pr := False) (z := 1) (by decide) ⟨by decide, by decide⟩ ⟨by decide, by decide⟩ (h_carry_1 (t_carry2 hO hj h hst0)) (m_carry2 hO hj h) (fun q => absurd q (by decide)) (fun l5 l6 => nx _ _ _ _ l5 l6 (Iv_3 hI) rfl)
  · exact k_carry M TB hAA hX hbl hbA hL hk rfl rfl (Pr := False) (z := 1) (by decide) ⟨by decide, by decide⟩ ⟨by decide, by decide⟩ (h_carry_1 (t_carry1 h hst0)) (m_carry1 hO h) (fun q => absurd q (by decide)) (fun l5 l6 => nx _ _ _ _ l5 l6 (Iv_3 hI) rfl)
set_option maxRecDepth 20000 in
set_option maxHeartbeats 2000000 in
theorem o_charge (M : CallFix p m c cL_law 7 s #[Value.ref b] gw RL) (TB : x_TB D kc A s s.heap) (hAA : ∀ q : Nat, s.heap.size ≤ q → A q) (hX : va_X b L xs s s.heap) (hbl : b < s.heap.size) (hbA : ¬ A b) (hL : L ≤ 1536) (hk : k + 3 ≤ L) (hst0 : l.stackTraces = false) (hI : Iv S k)
    (nx : ∀ (T : St) (z : Nat) (ov2 : Int64) (hw2 : Nat) (l5 l6 : Option Value), Iv T (k + 3) → T 0 0 = hw2 → x_X p l e room_1 s m #[Value.ref b] below meth c D A 7 (200 + (k + 3)) (3000 + 6 * (k + 3)) (lw_Z below #[Value.ref b] s) (wl kc ad T T z ov2 hw2) 1015 [some (.ref b), some (.ref (ad 0)), some (.ref (ad 6)), some (.ref (ad 18)), some (.int (nI k)), l5, l6] []) : x_X p l e room_1 s m #[Value.ref b] below meth c D A 7 (200 + k) (3000 + 6 * k) (lw_Z below #[Value.ref b] s) (wl kc ad S S th ov (S 0 0)) 379 [some (.ref b), some (.ref (ad 0)), some (.ref (ad 6)), some (.ref (ad 18)), some (.int (nI k)), l5, l6] [] := by
  have hO := hI.1
  rcases bad_or (S 0 0) (by have := hO.n; omega) (xs (k + 1)) with ⟨j, hj, e1⟩ | h
  · exact k_charge M TB hAA hX hbl hbA hL hk e1 (z := 0) (by decide) ⟨by decide, by decide⟩ ⟨by decide, by decide⟩ (h_charge (c_charge hO hj)) (m_charge hO hj (Nat.le_refl _)) (fun _ => rfl) (fun l5 l6 => nx _ _ _ _ l5 l6 (Iv_up hI (Or.inl rfl) hj (by decide)) rfl)
  · exact k_charge M TB hAA hX hbl hbA hL hk rfl (z := 1) (by decide) ⟨by decide, by decide⟩ ⟨by decide, by decide⟩ (h_charge_1 (t_charge h hst0)) (m_charge1 hO h) (fun q => absurd q (by decide)) (fun l5 l6 => nx _ _ _ _ l5 l6 (Iv_3 hI) rfl)
set_option maxRecDepth 20000 in
set_option maxHeartbeats 2000000 in
theorem o_loseSendings (M : CallFix p m c cL_law 7 s #[Value.ref b] gw RL) (TB : x_TB D kc A s s.heap) (hAA : ∀ q : Nat, s.heap.size ≤ q → A q) (hX : va_X b L xs s s.heap) (hbl : b < s.heap.size) (hbA : ¬ A b) (hL : L ≤ 1536) (hk : k + 3 ≤ L) (hst0 : l.stackTraces = false) (hI : Iv S k)
    (nx : ∀ (T : St) (z : Nat) (ov2 : Int64) (hw2 : Nat) (l5 l6 : Option Value), Iv T (k + 3) → T 0 0 = hw2 → x_X p l e room_1 s m #[Value.ref b] below meth c D A 7 (200 + (k + 3)) (3000 + 6 * (k + 3)) (lw_Z below #[Value.ref b] s) (wl kc ad T T z ov2 hw2) 1015 [some (.ref b), some (.ref (ad 0)), some (.ref (ad 6)), some (.ref (ad 18)), some (.int (nI k)), l5, l6] []) : x_X p l e room_1 s m #[Value.ref b] below meth c D A 7 (200 + k) (3000 + 6 * k) (lw_Z below #[Value.ref b] s) (wl kc ad S S th ov (S 0 0)) 435 [some (.ref b), some (.ref (ad 0)), some (.ref (ad 6)), some (.ref (ad 18)), some (.int (nI k)), l5, l6] [] := by
  have hO := hI.1
  rcases bad_or (S 0 0) (by have := hO.n; omega) (xs (k + 1)) with ⟨j, hj, e1⟩ | h
  · rcases within_or 0 20 (by decide) (by decide) (xs (k + 2)) with ⟨v, -, hv, e2⟩ | h
    · exact k_loseSendings M TB hAA hX hbl hbA hL hk e1 e2 (z := 0) (by decide) ⟨by decide, by decide⟩ ⟨by decide, by decide⟩ (h_loseSendings (c_loseSendings hO hj hv)) (m_loseSendings hO hj hv) (fun _ => rfl) (fun l5 l6 => nx _ _ _ _ l5 l6 (Iv_up hI (Or.inr (Or.inl rfl)) hj (by omega)) rfl)
    · exact k_loseSendings M TB hAA hX hbl hbA hL hk e1 rfl (z := 2) (by decide) ⟨by decide, by decide⟩ ⟨by decide, by decide⟩ (h_loseSendings_2 (t_loseSendings2 hO hj h hst0)) (m_loseSendings2 hO hj h) (fun q => absurd q (by decide)) (fun l5 l6 => nx _ _ _ _ l5 l6 (Iv_3 hI) rfl)
  · exact k_loseSendings M TB hAA hX hbl hbA hL hk rfl rfl (z := 1) (by decide) ⟨by decide, by decide⟩ ⟨by decide, by decide⟩ (h_loseSendings_1 (t_loseSendings1 h hst0)) (m_loseSendings1 hO h) (fun q => absurd q (by decide)) (fun l5 l6 => nx _ _ _ _ l5 l6 (Iv_3 hI) rfl)
set_option maxRecDepth 20000 in
set_option maxHeartbeats 2000000 in
theorem o_loseAnswers (M : CallFix p m c cL_law 7 s #[Value.ref b] gw RL) (TB : x_TB D kc A s s.heap) (hAA : ∀ q : Nat, s.heap.size ≤ q → A q) (hX : va_X b L xs s s.heap) (hbl : b < s.heap.size) (hbA : ¬ A b) (hL : L ≤ 1536) (hk : k + 3 ≤ L) (hst0 : l.stackTraces = false) (hI : Iv S k)
    (nx : ∀ (T : St) (z : Nat) (ov2 : Int64) (hw2 : Nat) (l5 l6 : Option Value), Iv T (k + 3) → T 0 0 = hw2 → x_X p l e room_1 s m #[Value.ref b] below meth c D A 7 (200 + (k + 3)) (3000 + 6 * (k + 3)) (lw_Z below #[Value.ref b] s) (wl kc ad T T z ov2 hw2) 1015 [some (.ref b), some (.ref (ad 0)), some (.ref (ad 6)), some (.ref (ad 18)), some (.int (nI k)), l5, l6] []) : x_X p l e room_1 s m #[Value.ref b] below meth c D A 7 (200 + k) (3000 + 6 * k) (lw_Z below #[Value.ref b] s) (wl kc ad S S th ov (S 0 0)) 503 [some (.ref b), some (.ref (ad 0)), some (.ref (ad 6)), some (.ref (ad 18)), some (.int (nI k)), l5, l6] [] := by
  have hO := hI.1
  rcases bad_or (S 0 0) (by have := hO.n; omega) (xs (k + 1)) with ⟨j, hj, e1⟩ | h
  · rcases within_or 0 20 (by decide) (by decide) (xs (k + 2)) with ⟨v, -, hv, e2⟩ | h
    · exact k_loseAnswers M TB hAA hX hbl hbA hL hk e1 e2 (z := 0) (by decide) ⟨by decide, by decide⟩ ⟨by decide, by decide⟩ (h_loseAnswers (c_loseAnswers hO hj hv)) (m_loseAnswers hO hj hv) (fun _ => rfl) (fun l5 l6 => nx _ _ _ _ l5 l6 (Iv_up hI (Or.inr (Or.inr rfl)) hj (by omega)) rfl)
    · exact k_loseAnswers M TB hAA hX hbl hbA hL hk e1 rfl (z := 2) (by decide) ⟨by decide, by decide⟩ ⟨by decide, by decide⟩ (h_loseAnswers_2 (t_loseAnswers2 hO hj h hst0)) (m_loseAnswers2 hO hj h) (fun q => absurd q (by decide)) (fun l5 l6 => nx _ _ _ _ l5 l6 (Iv_3 hI) rfl)
  · exact k_loseAnswers M TB hAA hX hbl hbA hL hk rfl rfl (z := 1) (by decide) ⟨by decide, by decide⟩ ⟨by decide, by decide⟩ (h_loseAnswers_1 (t_loseAnswers1 h hst0)) (m_loseAnswers1 hO h) (fun q => absurd q (by decide)) (fun l5 l6 => nx _ _ _ _ l5 l6 (Iv_3 hI) rfl)
set_option maxRecDepth 20000 in
set_option maxHeartbeats 2000000 in
theorem o_pass (M : CallFix p m c cL_law 7 s #[Value.ref b] gw RL) (TB : x_TB D kc A s s.heap) (hAA : ∀ q : Nat, s.heap.size ≤ q → A q) (hX : va_X b L xs s s.heap) (hbl : b < s.heap.size) (hbA : ¬ A b) (hL : L ≤ 1536) (hk : k + 3 ≤ L) (hst0 : l.stackTraces = false) (hI : Iv S k)
    (nx : ∀ (T : St) (z : Nat) (ov2 : Int64) (hw2 : Nat) (l5 l6 : Option Value), Iv T (k + 3) → T 0 0 = hw2 → x_X p l e room_1 s m #[Value.ref b] below meth c D A 7 (200 + (k + 3)) (3000 + 6 * (k + 3)) (lw_Z below #[Value.ref b] s) (wl kc ad T T z ov2 hw2) 1015 [some (.ref b), some (.ref (ad 0)), some (.ref (ad 6)), some (.ref (ad 18)), some (.int (nI k)), l5, l6] []) : x_X p l e room_1 s m #[Value.ref b] below meth c D A 7 (200 + k) (3000 + 6 * k) (lw_Z below #[Value.ref b] s) (wl kc ad S S th ov (S 0 0)) 571 [some (.ref b), some (.ref (ad 0)), some (.ref (ad 6)), some (.ref (ad 18)), some (.int (nI k)), l5, l6] [] := by
  have hO := hI.1
  rcases within_or 1 200 (by decide) (by decide) (xs (k + 1)) with ⟨n, h1, h2, e1⟩ | h
  · by_cases ht : S 0 1 + n ≤ 10000
    · exact k_pass M TB hAA hX hbl hbA hL hk e1 (z := 0) (by decide) ⟨by decide, by decide⟩ ⟨by decide, by decide⟩ (h_pass (c_pass hO h1 h2 ht)) (m_pass hO h1 h2 ht (Nat.le_refl _)) (fun _ => rfl) (fun l5 l6 => nx _ _ _ _ l5 l6 (Iv_mnts hI ht) (mnts_ok hO n ht).2.2)
    · exact k_pass M TB hAA hX hbl hbA hL hk e1 (z := 2) (by decide) ⟨by decide, by decide⟩ ⟨by decide, by decide⟩ (h_pass_2 (t_pass2 hO h1 h2 (Nat.lt_of_not_le ht) hst0)) (m_pass2 hO h1 h2 (Nat.lt_of_not_le ht)) (fun q => absurd q (by decide)) (fun l5 l6 => nx _ _ _ _ l5 l6 (Iv_3 hI) rfl)
  · exact k_pass M TB hAA hX hbl hbA hL hk rfl (z := 1) (by decide) ⟨by decide, by decide⟩ ⟨by decide, by decide⟩ (h_pass_1 (t_pass1 h hst0)) (m_pass1 h) (fun q => absurd q (by decide)) (fun l5 l6 => nx _ _ _ _ l5 l6 (Iv_3 hI) rfl)
set_option maxRecDepth 20000 in
set_option maxHeartbeats 2000000 in
theorem o_order (M : CallFix p m c cL_law 7 s #[Value.ref b] gw RL) (TB : x_TB D kc A s s.heap) (hAA : ∀ q : Nat, s.heap.size ≤ q → A q) (hX : va_X b L xs s s.heap) (hbl : b < s.heap.size) (hbA : ¬ A b) (hL : L ≤ 1536) (hk : k + 3 ≤ L) (hst0 : l.stackTraces = false) (hI : Iv S k)
    (nx : ∀ (T : St) (z : Nat) (ov2 : Int64) (hw2 : Nat) (l5 l6 : Option Value), Iv T (k + 3) → T 0 0 = hw2 → x_X p l e room_1 s m #[Value.ref b] below meth c D A 7 (200 + (k + 3)) (3000 + 6 * (k + 3)) (lw_Z below #[Value.ref b] s) (wl kc ad T T z ov2 hw2) 1015 [some (.ref b), some (.ref (ad 0)), some (.ref (ad 6)), some (.ref (ad 18)), some (.int (nI k)), l5, l6] []) : x_X p l e room_1 s m #[Value.ref b] below meth c D A 7 (200 + k) (3000 + 6 * k) (lw_Z below #[Value.ref b] s) (wl kc ad S S th ov (S 0 0)) 640 [some (.ref b), some (.ref (ad 0)), some (.ref (ad 6)), some (.ref (ad 18)), some (.int (nI k)), l5, l6] [] := by
  have hO := hI.1
  rcases bad_or (S 0 0) (by have := hO.n; omega) (xs (k + 1)) with ⟨j, hj, e1⟩ | h
  · exact k_order M TB hAA hX hbl hbA hL hk e1 (z := 0) (by decide) ⟨by decide, by decide⟩ ⟨by decide, by decide⟩ (h_order (c_order hO hj)) (m_order hO hj) (fun _ => rfl) (fun l5 l6 => nx _ _ _ _ l5 l6 (Iv_3 hI) rfl)
  · exact k_order M TB hAA hX hbl hbA hL hk rfl (z := 1) (by decide) ⟨by decide, by decide⟩ ⟨by decide, by decide⟩ (h_order_1 (t_order h hst0)) (m_order1 hO h) (fun q => absurd q (by decide)) (fun l5 l6 => nx _ _ _ _ l5 l6 (Iv_3 hI) rfl)
set_option maxRecDepth 20000 in
set_option maxHeartbeats 2000000 in
theorem o_shown (M : CallFix p m c cL_law 7 s #[Value.ref b] gw RL) (TB : x_TB D kc A s s.heap) (hAA : ∀ q : Nat, s.heap.size ≤ q → A q) (hX : va_X b L xs s s.heap) (hbl : b < s.heap.size) (hbA : ¬ A b) (hL : L ≤ 1536) (hk : k + 3 ≤ L) (hst0 : l.stackTraces = false) (hI : Iv S k)
    (nx : ∀ (T : St) (z : Nat) (ov2 : Int64) (hw2 : Nat) (l5 l6 : Option Value), Iv T (k + 3) → T 0 0 = hw2 → x_X p l e room_1 s m #[Value.ref b] below meth c D A 7 (200 + (k + 3)) (3000 + 6 * (k + 3)) (lw_Z below #[Value.ref b] s) (wl kc ad T T z ov2 hw2) 1015 [some (.ref b), some (.ref (ad 0)), some (.ref (ad 6)), some (.ref (ad 18)), some (.int (nI k)), l5, l6] []) : x_X p l e room_1 s m #[Value.ref b] below meth c D A 7 (200 + k) (3000 + 6 * k) (lw_Z below #[Value.ref b] s) (wl kc ad S S th ov (S 0 0)) 722 [some (.ref b), some (.ref (ad 0)), some (.ref (ad 6)), some (.ref (ad 18)), some (.int (nI k)), l5, l6] [] := by
  have hO := hI.1
  rcases bad_or (S 0 0) (by have := hO.n; omega) (xs (k + 1)) with ⟨j, hj, e1⟩ | h
  · exact k_shown M TB hAA hX hbl hbA hL hk e1 (z := 0) (by decide) ⟨by decide, by decide⟩ ⟨by decide, by decide⟩ (h_shown (c_shown hO hj)) (m_shown hO hj) (fun _ => rfl) (fun l5 l6 => nx _ _ _ _ l5 l6 (Iv_3 hI) rfl)
  · exact k_shown M TB hAA hX hbl hbA hL hk rfl (z := 1) (by decide) ⟨by decide, by decide⟩ ⟨by decide, by decide⟩ (h_shown_1 (t_shown h hst0)) (m_shown1 hO h) (fun q => absurd q (by decide)) (fun l5 l6 => nx _ _ _ _ l5 l6 (Iv_3 hI) rfl)
set_option maxRecDepth 20000 in
set_option maxHeartbeats 2000000 in
theorem o_ghosts (M : CallFix p m c cL_law 7 s #[Value.ref b] gw RL) (TB : x_TB D kc A s s.heap) (hAA : ∀ q : Nat, s.heap.size ≤ q → A q) (hX : va_X b L xs s s.heap) (hbl : b < s.heap.size) (hbA : ¬ A b) (hL : L ≤ 1536) (hk : k + 3 ≤ L) (hst0 : l.stackTraces = false) (hI : Iv S k)
    (nx : ∀ (T : St) (z : Nat) (ov2 : Int64) (hw2 : Nat) (l5 l6 : Option Value), Iv T (k + 3) → T 0 0 = hw2 → x_X p l e room_1 s m #[Value.ref b] below meth c D A 7 (200 + (k + 3)) (3000 + 6 * (k + 3)) (lw_Z below #[Value.ref b] s) (wl kc ad T T z ov2 hw2) 1015 [some (.ref b), some (.ref (ad 0)), some (.ref (ad 6)), some (.ref (ad 18)), some (.int (nI k)), l5, l6] []) : x_X p l e room_1 s m #[Value.ref b] below meth c D A 7 (200 + k) (3000 + 6 * k) (lw_Z below #[Value.ref b] s) (wl kc ad S S th ov (S 0 0)) 778 [some (.ref b), some (.ref (ad 0)), some (.ref (ad 6)), some (.ref (ad 18)), some (.int (nI k)), l5, l6] [] := by
  have hO := hI.1
  rcases bad_or (S 0 0) (by have := hO.n; omega) (xs (k + 1)) with ⟨j, hj, e1⟩ | h
  · exact k_ghosts M TB hAA hX hbl hbA hL hk e1 (z := 0) (by decide) ⟨by decide, by decide⟩ ⟨by decide, by decide⟩ (h_ghosts (c_ghosts hO hj)) (m_ghosts hO hj) (fun _ => rfl) (fun l5 l6 => nx _ _ _ _ l5 l6 (Iv_3 hI) rfl)
  · exact k_ghosts M TB hAA hX hbl hbA hL hk rfl (z := 1) (by decide) ⟨by decide, by decide⟩ ⟨by decide, by decide⟩ (h_ghosts_1 (t_ghosts h hst0)) (m_ghosts1 hO h) (fun q => absurd q (by decide)) (fun l5 l6 => nx _ _ _ _ l5 l6 (Iv_3 hI) rfl)
set_option maxRecDepth 20000 in
set_option maxHeartbeats 2000000 in
theorem o_battery (M : CallFix p m c cL_law 7 s #[Value.ref b] gw RL) (TB : x_TB D kc A s s.heap) (hAA : ∀ q : Nat, s.heap.size ≤ q → A q) (hX : va_X b L xs s s.heap) (hbl : b < s.heap.size) (hbA : ¬ A b) (hL : L ≤ 1536) (hk : k + 3 ≤ L) (hst0 : l.stackTraces = false) (hI : Iv S k)
    (nx : ∀ (T : St) (z : Nat) (ov2 : Int64) (hw2 : Nat) (l5 l6 : Option Value), Iv T (k + 3) → T 0 0 = hw2 → x_X p l e room_1 s m #[Value.ref b] below meth c D A 7 (200 + (k + 3)) (3000 + 6 * (k + 3)) (lw_Z below #[Value.ref b] s) (wl kc ad T T z ov2 hw2) 1015 [some (.ref b), some (.ref (ad 0)), some (.ref (ad 6)), some (.ref (ad 18)), some (.int (nI k)), l5, l6] []) : x_X p l e room_1 s m #[Value.ref b] below meth c D A 7 (200 + k) (3000 + 6 * k) (lw_Z below #[Value.ref b] s) (wl kc ad S S th ov (S 0 0)) 834 [some (.ref b), some (.ref (ad 0)), some (.ref (ad 6)), some (.ref (ad 18)), some (.int (nI k)), l5, l6] [] := by
  have hO := hI.1
  rcases bad_or (S 0 0) (by have := hO.n; omega) (xs (k + 1)) with ⟨j, hj, e1⟩ | h
  · exact k_battery M TB hAA hX hbl hbA hL hk e1 (z := 0) (by decide) ⟨by decide, by decide⟩ ⟨by decide, by decide⟩ (h_battery (c_battery hO hj)) (m_battery hO hj (Nat.le_refl _)) (fun _ => rfl) (fun l5 l6 => nx _ _ _ _ l5 l6 (Iv_3 hI) rfl)
  · exact k_battery M TB hAA hX hbl hbA hL hk rfl (z := 1) (by decide) ⟨by decide, by decide⟩ ⟨by decide, by decide⟩ (h_battery_1 (t_battery h hst0)) (m_battery1 hO h) (fun q => absurd q (by decide)) (fun l5 l6 => nx _ _ _ _ l5 l6 (Iv_3 hI) rfl)
set_option maxRecDepth 20000 in
set_option maxHeartbeats 2000000 in
theorem o_time (M : CallFix p m c cL_law 7 s #[Value.ref b] gw RL) (TB : x_TB D kc A s s.heap) (hAA : ∀ q : Nat, s.heap.size ≤ q → A q) (hX : va_X b L xs s s.heap) (hbl : b < s.heap.size) (hbA : ¬ A b) (hL : L ≤ 1536) (hk : k + 3 ≤ L) (hst0 : l.stackTraces = false) (hI : Iv S k)
    (nx : ∀ (T : St) (z : Nat) (ov2 : Int64) (hw2 : Nat) (l5 l6 : Option Value), Iv T (k + 3) → T 0 0 = hw2 → x_X p l e room_1 s m #[Value.ref b] below meth c D A 7 (200 + (k + 3)) (3000 + 6 * (k + 3)) (lw_Z below #[Value.ref b] s) (wl kc ad T T z ov2 hw2) 1015 [some (.ref b), some (.ref (ad 0)), some (.ref (ad 6)), some (.ref (ad 18)), some (.int (nI k)), l5, l6] []) : x_X p l e room_1 s m #[Value.ref b] below meth c D A 7 (200 + k) (3000 + 6 * k) (lw_Z below #[Value.ref b] s) (wl kc ad S S th ov (S 0 0)) 627 [some (.ref b), some (.ref (ad 0)), some (.ref (ad 6)), some (.ref (ad 18)), some (.int (nI k)), l5, l6] [] := by
  have hO := hI.1
  exact k_time M TB hAA hX hbl hbA hL hk hO (fun l5 l6 => nx _ _ _ _ l5 l6 (Iv_3 hI) rfl)
set_option maxRecDepth 20000 in
set_option maxHeartbeats 2000000 in
theorem o_orders (M : CallFix p m c cL_law 7 s #[Value.ref b] gw RL) (TB : x_TB D kc A s s.heap) (hAA : ∀ q : Nat, s.heap.size ≤ q → A q) (hX : va_X b L xs s s.heap) (hbl : b < s.heap.size) (hbA : ¬ A b) (hL : L ≤ 1536) (hk : k + 3 ≤ L) (hst0 : l.stackTraces = false) (hI : Iv S k)
    (nx : ∀ (T : St) (z : Nat) (ov2 : Int64) (hw2 : Nat) (l5 l6 : Option Value), Iv T (k + 3) → T 0 0 = hw2 → x_X p l e room_1 s m #[Value.ref b] below meth c D A 7 (200 + (k + 3)) (3000 + 6 * (k + 3)) (lw_Z below #[Value.ref b] s) (wl kc ad T T z ov2 hw2) 1015 [some (.ref b), some (.ref (ad 0)), some (.ref (ad 6)), some (.ref (ad 18)), some (.int (nI k)), l5, l6] []) : x_X p l e room_1 s m #[Value.ref b] below meth c D A 7 (200 + k) (3000 + 6 * k) (lw_Z below #[Value.ref b] s) (wl kc ad S S th ov (S 0 0)) 696 [some (.ref b), some (.ref (ad 0)), some (.ref (ad 6)), some (.ref (ad 18)), some (.int (nI k)), l5, l6] [] := by
  have hO := hI.1
  exact k_orders M TB hAA hX hbl hbA hL hk hO (fun l5 l6 => nx _ _ _ _ l5 l6 (Iv_3 hI) rfl)
set_option maxRecDepth 20000 in
set_option maxHeartbeats 2000000 in
theorem o_nextToSend (M : CallFix p m c cL_law 7 s #[Value.ref b] gw RL) (TB : x_TB D kc A s s.heap) (hAA : ∀ q : Nat, s.heap.size ≤ q → A q) (hX : va_X b L xs s s.heap) (hbl : b < s.heap.size) (hbA : ¬ A b) (hL : L ≤ 1536) (hk : k + 3 ≤ L) (hst0 : l.stackTraces = false) (hI : Iv S k)
    (nx : ∀ (T : St) (z : Nat) (ov2 : Int64) (hw2 : Nat) (l5 l6 : Option Value), Iv T (k + 3) → T 0 0 = hw2 → x_X p l e room_1 s m #[Value.ref b] below meth c D A 7 (200 + (k + 3)) (3000 + 6 * (k + 3)) (lw_Z below #[Value.ref b] s) (wl kc ad T T z ov2 hw2) 1015 [some (.ref b), some (.ref (ad 0)), some (.ref (ad 6)), some (.ref (ad 18)), some (.int (nI k)), l5, l6] []) : x_X p l e room_1 s m #[Value.ref b] below meth c D A 7 (200 + k) (3000 + 6 * k) (lw_Z below #[Value.ref b] s) (wl kc ad S S th ov (S 0 0)) 709 [some (.ref b), some (.ref (ad 0)), some (.ref (ad 6)), some (.ref (ad 18)), some (.int (nI k)), l5, l6] [] := by
  have hO := hI.1
  exact k_nextToSend M TB hAA hX hbl hbA hL hk hO (fun l5 l6 => nx _ _ _ _ l5 l6 (Iv_3 hI) rfl)
set_option maxRecDepth 20000 in
set_option maxHeartbeats 2000000 in
theorem o_lies (M : CallFix p m c cL_law 7 s #[Value.ref b] gw RL) (TB : x_TB D kc A s s.heap) (hAA : ∀ q : Nat, s.heap.size ≤ q → A q) (hX : va_X b L xs s s.heap) (hbl : b < s.heap.size) (hbA : ¬ A b) (hL : L ≤ 1536) (hk : k + 3 ≤ L) (hst0 : l.stackTraces = false) (hI : Iv S k)
    (nx : ∀ (T : St) (z : Nat) (ov2 : Int64) (hw2 : Nat) (l5 l6 : Option Value), Iv T (k + 3) → T 0 0 = hw2 → x_X p l e room_1 s m #[Value.ref b] below meth c D A 7 (200 + (k + 3)) (3000 + 6 * (k + 3)) (lw_Z below #[Value.ref b] s) (wl kc ad T T z ov2 hw2) 1015 [some (.ref b), some (.ref (ad 0)), some (.ref (ad 6)), some (.ref (ad 18)), some (.int (nI k)), l5, l6] []) : x_X p l e room_1 s m #[Value.ref b] below meth c D A 7 (200 + k) (3000 + 6 * k) (lw_Z below #[Value.ref b] s) (wl kc ad S S th ov (S 0 0)) 890 [some (.ref b), some (.ref (ad 0)), some (.ref (ad 6)), some (.ref (ad 18)), some (.int (nI k)), l5, l6] [] := by
  have hO := hI.1
  exact k_lies M TB hAA hX hbl hbA hL hk hO (fun l5 l6 => nx _ _ _ _ l5 l6 (Iv_3 hI) rfl)
theorem x_lawEnd (M : CallFix p m c cL_law 7 s #[Value.ref b] gw RL) (TB : x_TB D kc A s s.heap) (hAA : ∀ q : Nat, s.heap.size ≤ q → A q) (hX : va_X b L xs s s.heap) (hbl : b < s.heap.size) (hbA : ¬ A b) (hL : L ≤ 1536) (hAle : ∀ q : Nat, A q → s.heap.size ≤ q) (hr : meth.sig.returnType = ret) (hlocks : meth.locks = false) {cells slots : Nat} {ws : va_W} {ls : List (Option Value)} (hc : cells ≤ 601024 ∧ slots ≤ 7293034) : x_X p l e room_1 s m #[Value.ref b] below meth c D A 7 cells slots (lw_Z below #[Value.ref b] s) ws 1022 ls [.int 1] := fun H locs la hP hD hS hl =>
  W.widen hc.1 hc.2 (va_forget (fun q hq => hAle _ (hS.2.2 q hq)) (lw_ret M.1 M.2.1 hr hlocks dL_law_1022))
set_option maxRecDepth 20000 in
set_option maxHeartbeats 2000000 in
theorem law_loop (M : CallFix p m c cL_law 7 s #[Value.ref b] gw RL) (TB : x_TB D kc A s s.heap) (hAA : ∀ q : Nat, s.heap.size ≤ q → A q) (hX : va_X b L xs s s.heap) (hbl : b < s.heap.size) (hbA : ¬ A b) (hL : L ≤ 1536) (hAle : ∀ q : Nat, A q → s.heap.size ≤ q) (hr : meth.sig.returnType = ret) (hlocks : meth.locks = false) (hst0 : l.stackTraces = false) : ∀ (d k : Nat) (S : St) (th : Nat) (ov : Int64) (l5 l6 : Option Value), Iv S k → L < k + 3 * d + 3 → k ≤ L → x_X p l e room_1 s m #[Value.ref b] below meth c D A 7 (200 + k) (3000 + 6 * k) (lw_Z below #[Value.ref b] s) (wl kc ad S S th ov (S 0 0)) 23 [some (.ref b), some (.ref (ad 0)), some (.ref (ad 6)), some (.ref (ad 18)), some (.int (nI k)), l5, l6] [] := by
  intro d
  induction d with
  | zero =>
    intro k S th ov l5 l6 hI hd hkL
    refine x_iload4 M dL_law_23 ?_
    refine x_aload0 M dL_law_25 ?_
    refine x_slen M hX hbl hbA dL_law_26 ?_
    refine x_iconst (v := nI 3) M dL_law_27 (by decide +kernel) ?_
    refine x_isub M dL_law_28 rfl ?_
    refine x_icmp_gt (tgt := 1021) M dL_law_29 (by decide) (fun q => ?_) (fun q => absurd (lw_gt (by omega) hL (by omega)) q)
    refine x_iconst (v := 1) M dL_law_1021 (by decide +kernel) ?_
    exact x_lawEnd M TB hAA hX hbl hbA hL hAle hr hlocks ⟨by omega, by omega⟩
  | succ d ih =>
    intro k S th ov l5 l6 hI hd hkL
    refine x_iload4 M dL_law_23 ?_
    refine x_aload0 M dL_law_25 ?_
    refine x_slen M hX hbl hbA dL_law_26 ?_
    refine x_iconst (v := nI 3) M dL_law_27 (by decide +kernel) ?_
    refine x_isub M dL_law_28 rfl ?_
    by_cases hk : k + 3 ≤ L
    · refine x_icmp_gt (tgt := 1021) M dL_law_29 (by decide) (fun q => absurd q (lw_ngt hk hL)) (fun q => ?_)
      refine x_aload0 M dL_law_32 ?_
      refine x_iload4 M dL_law_33 ?_
      refine x_sld M hX hbl hbA rfl (by omega) hL dL_law_35 ?_
      refine x_bipush (v := nI 31) M dL_law_36 (by decide +kernel) ?_
      obtain ⟨cs, hcs, e9⟩ := pk_andE (xs k) (m := nI 31) 5 (by decide)
      refine x_iand M dL_law_38 e9 ?_
      have nx : ∀ (T : St) (z : Nat) (ov2 : Int64) (hw2 : Nat) (l5 l6 : Option Value), Iv T (k + 3) → T 0 0 = hw2 → x_X p l e room_1 s m #[Value.ref b] below meth c D A 7 (200 + (k + 3)) (3000 + 6 * (k + 3)) (lw_Z below #[Value.ref b] s) (wl kc ad T T z ov2 hw2) 1015 [some (.ref b), some (.ref (ad 0)), some (.ref (ad 6)), some (.ref (ad 18)), some (.int (nI k)), l5, l6] [] := by
        intro T z ov2 hw2 l5 l6 hT e00
        subst e00
        refine n_inc4_3 M dL_law_1015 ?_
        refine x_goto (tgt := 23) M dL_law_1018 (by decide) ?_
        exact ih (k + 3) T z ov2 l5 l6 hT (by omega) (by omega)
      rcases (show cs = 0 ∨ cs = 1 ∨ cs = 2 ∨ cs = 3 ∨ cs = 4 ∨ cs = 5 ∨ cs = 6 ∨ cs = 7 ∨ cs = 8 ∨ cs = 9 ∨ cs = 10 ∨ cs = 11 ∨ cs = 12 ∨ cs = 13 ∨ cs = 14 ∨ cs = 15 ∨ cs = 16 ∨ cs = 17 ∨ 18 ≤ cs by omega) with rfl | rfl | rfl | rfl | rfl | rfl | rfl | rfl | rfl | rfl | rfl | rfl | rfl | rfl | rfl | rfl | rfl | rfl | hcs2
      · refine x_tabIn (off := 85) (tgt := 124) M dL_law_39 (by decide +kernel) (by decide +kernel) (by decide +kernel) (by decide) ?_
        exact o_setPrice M TB hAA hX hbl hbA hL hk hst0 hI nx
      · refine x_tabIn (off := 153) (tgt := 192) M dL_law_39 (by decide +kernel) (by decide +kernel) (by decide +kernel) (by decide) ?_
        exact o_price M TB hAA hX hbl hbA hL hk hst0 hI nx
      · refine x_tabIn (off := 209) (tgt := 248) M dL_law_39 (by decide +kernel) (by decide +kernel) (by decide +kernel) (by decide) ?_
        exact o_hang M TB hAA hX hbl hbA hL hk hst0 hI nx
      · refine x_tabIn (off := 265) (tgt := 304) M dL_law_39 (by decide +kernel) (by decide +kernel) (by decide +kernel) (by decide) ?_
        exact o_carry M TB hAA hX hbl hbA hL hk hst0 hI nx
      · refine x_tabIn (off := 340) (tgt := 379) M dL_law_39 (by decide +kernel) (by decide +kernel) (by decide +kernel) (by decide) ?_
        exact o_charge M TB hAA hX hbl hbA hL hk hst0 hI nx
      · refine x_tabIn (off := 396) (tgt := 435) M dL_law_39 (by decide +kernel) (by decide +kernel) (by decide +kernel) (by decide) ?_
        exact o_loseSendings M TB hAA hX hbl hbA hL hk hst0 hI nx
      · refine x_tabIn (off := 464) (tgt := 503) M dL_law_39 (by decide +kernel) (by decide +kernel) (by decide +kernel) (by decide) ?_
        exact o_loseAnswers M TB hAA hX hbl hbA hL hk hst0 hI nx
      · refine x_tabIn (off := 532) (tgt := 571) M dL_law_39 (by decide +kernel) (by decide +kernel) (by decide +kernel) (by decide) ?_
        exact o_pass M TB hAA hX hbl hbA hL hk hst0 hI nx
      · refine x_tabIn (off := 588) (tgt := 627) M dL_law_39 (by decide +kernel) (by decide +kernel) (by decide +kernel) (by decide) ?_
        exact o_time M TB hAA hX hbl hbA hL hk hst0 hI nx
      · refine x_tabIn (off := 601) (tgt := 640) M dL_law_39 (by decide +kernel) (by decide +kernel) (by decide +kernel) (by decide) ?_
        exact o_order M TB hAA hX hbl hbA hL hk hst0 hI nx
      · refine x_tabIn (off := 657) (tgt := 696) M dL_law_39 (by decide +kernel) (by decide +kernel) (by decide +kernel) (by decide) ?_
        exact o_orders M TB hAA hX hbl hbA hL hk hst0 hI nx
      · refine x_tabIn (off := 670) (tgt := 709) M dL_law_39 (by decide +kernel) (by decide +kernel) (by decide +kernel) (by decide) ?_
        exact o_nextToSend M TB hAA hX hbl hbA hL hk hst0 hI nx
      · refine x_tabIn (off := 683) (tgt := 722) M dL_law_39 (by decide +kernel) (by decide +kernel) (by decide +kernel) (by decide) ?_
        exact o_shown M TB hAA hX hbl hbA hL hk hst0 hI nx
      · refine x_tabIn (off := 739) (tgt := 778) M dL_law_39 (by decide +kernel) (by decide +kernel) (by decide +kernel) (by decide) ?_
        exact o_ghosts M TB hAA hX hbl hbA hL hk hst0 hI nx
      · refine x_tabIn (off := 795) (tgt := 834) M dL_law_39 (by decide +kernel) (by decide +kernel) (by decide +kernel) (by decide) ?_
        exact o_battery M TB hAA hX hbl hbA hL hk hst0 hI nx
      · refine x_tabIn (off := 851) (tgt := 890) M dL_law_39 (by decide +kernel) (by decide +kernel) (by decide +kernel) (by decide) ?_
        exact o_lies M TB hAA hX hbl hbA hL hk hst0 hI nx
      · refine x_tabIn (off := 864) (tgt := 903) M dL_law_39 (by decide +kernel) (by decide +kernel) (by decide +kernel) (by decide) ?_
        exact o_asked M TB hAA hX hbl hbA hL hk hst0 hI nx
      · refine x_tabIn (off := 920) (tgt := 959) M dL_law_39 (by decide +kernel) (by decide +kernel) (by decide +kernel) (by decide) ?_
        exact o_leastEver M TB hAA hX hbl hbA hL hk hst0 hI nx
      · refine x_tabOut (tgt := 1015) M dL_law_39 (Or.inr (by rw [nI_toInt (by omega)]; omega)) (by decide) ?_
        exact x_widen (k := 200 + (k + 3)) (n := 3000 + 6 * (k + 3)) (by omega) (by omega) (nx S th ov _ l5 l6 (Iv_3 hI) rfl)
    · refine x_icmp_gt (tgt := 1021) M dL_law_29 (by decide) (fun q => ?_) (fun q => absurd (lw_gt (by omega) hL (by omega)) q)
      refine x_iconst (v := 1) M dL_law_1021 (by decide +kernel) ?_
      exact x_lawEnd M TB hAA hX hbl hbA hL hAle hr hlocks ⟨by omega, by omega⟩
end XK
