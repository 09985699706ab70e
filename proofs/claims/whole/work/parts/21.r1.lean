/-! the reference's methods: a minute, pass -/
section XM
variable {l : Launch} {D : va_G} {kc : Nat → ClassId} {A : Nat → Prop} {ad : Nat → Nat} {X B : St} {th : Nat} {ov : Int64} {hw : Nat}
def bat (Z : St) (k : Nat) : St := fun r i => if r = 5 ∧ i < k then Z 5 i - 1 else Z r i
def mem (Y : St) (k : Nat) : St := fun r i => if r = 10 ∧ i < 720 ∧ i % 60 = Y 0 1 % 60 ∧ i / 60 < k then lnow Y (i / 60) (Y 0 0) else if r = 11 ∧ i < k then min (Y 11 i) (lnow Y i (Y 0 0)) else Y r i
theorem bat_0 (Z : St) : bat Z 0 = Z := funext fun r => funext fun i => if_neg (by omega)
theorem bat_1 (Z : St) (k : Nat) : up (bat Z k) 5 k (bat Z k 5 k - 1) = bat Z (k + 1) := by
  have e : bat Z k 5 k = Z 5 k := if_neg (by omega)
  rw [e]
  funext r i
  unfold up
  by_cases h : r = 5 ∧ i = k
  · rw [if_pos h, h.1, h.2]
    exact (if_pos ⟨rfl, by omega⟩).symm
  · rw [if_neg h]
    unfold bat
    by_cases h2 : r = 5 ∧ i < k
    · rw [if_pos h2, if_pos (by omega)]
    · rw [if_neg h2, if_neg (by omega)]
theorem lnow_eq {S T : St} (w : Nat) (h : ∀ i, S 2 i = T 2 i ∧ S 3 i = T 3 i) : ∀ k, lnow S w k = lnow T w k
  | 0 => rfl
  | k + 1 => by
    unfold lnow
    rw [(h k).1, (h k).2, lnow_eq w h k]
theorem mem_0 (Y : St) : mem Y 0 = Y := funext fun r => funext fun i => by
  unfold mem
  rw [if_neg (by omega), if_neg (by omega)]
theorem mem_1 (Y : St) {k : Nat} (hk : k < 12) : up (up (mem Y k) 10 (60 * k + mem Y k 0 1 % 60) (lnow Y k (Y 0 0))) 11 k (min (up (mem Y k) 10 (60 * k + mem Y k 0 1 % 60) (lnow Y k (Y 0 0)) 11 k) (lnow Y k (Y 0 0))) = mem Y (k + 1) := by
  have e1 : mem Y k 0 1 = Y 0 1 := by unfold mem; rw [if_neg (by omega), if_neg (by omega)]
  have e2 : up (mem Y k) 10 (60 * k + mem Y k 0 1 % 60) (lnow Y k (Y 0 0)) 11 k = Y 11 k := by
    rw [up_r _ (by decide)]
    unfold mem
    rw [if_neg (by omega), if_neg (by omega)]
  have hq : Y 0 1 % 60 < 60 := Nat.mod_lt _ (by decide)
  rw [e2, e1]
  funext r i
  by_cases h11 : r = 11 ∧ i = k
  · obtain ⟨rfl, rfl⟩ := h11
    rw [up_s]
    unfold mem
    rw [if_neg (by omega), if_pos (by omega)]
  · rw [up_n _ h11]
    by_cases h10 : r = 10 ∧ i = 60 * k + Y 0 1 % 60
    · obtain ⟨rfl, rfl⟩ := h10
      rw [up_s]
      unfold mem
      rw [if_pos (by omega), show (60 * k + Y 0 1 % 60) / 60 = k by omega]
    · rw [up_n _ h10]
      unfold mem
      by_cases h1 : r = 10 ∧ i < 720 ∧ i % 60 = Y 0 1 % 60 ∧ i / 60 < k
      · rw [if_pos h1, if_pos (by omega)]
      · have h3 : ¬ (r = 10 ∧ i < 720 ∧ i % 60 = Y 0 1 % 60 ∧ i / 60 < k + 1) := by omega
        rw [if_neg h1, if_neg h3]
        by_cases h2 : r = 11 ∧ i < k
        · rw [if_pos h2, if_pos (by omega)]
        · rw [if_neg h2, if_neg (by omega)]
theorem mem_n (Y : St) (w k n : Nat) : lnow (mem Y k) w n = lnow Y w n := lnow_eq w (fun i => ⟨by unfold mem; rw [if_neg (by omega), if_neg (by omega)], by unfold mem; rw [if_neg (by omega), if_neg (by omega)]⟩) n
theorem mem_z (Y : St) (k i : Nat) : mem Y k 0 i = Y 0 i := by unfold mem; rw [if_neg (by omega), if_neg (by omega)]
theorem bat_z (Y : St) (k i : Nat) : bat Y k 0 i = Y 0 i := if_neg (by omega)
theorem mem_xem (Z : St) : mem (bat Z (Z 0 0)) 12 = xem Z (Z 0 0) := by
  have hl : ∀ w n, lnow (bat Z (Z 0 0)) w n = lnow Z w n := fun w n => lnow_eq w (fun i => ⟨if_neg (by omega), if_neg (by omega)⟩) n
  funext r i
  unfold mem xem
  rw [bat_z, bat_z, hl, hl]
  by_cases h5 : r = 5
  · subst h5
    rw [if_neg (by omega), if_neg (by omega), if_pos rfl]
    unfold bat
    by_cases h : i < Z 0 0
    · rw [if_pos ⟨rfl, h⟩, if_pos h]
    · rw [if_neg (fun q => h q.2), if_neg h]
  · rw [if_neg h5]
    by_cases h10 : r = 10
    · subst h10
      rw [if_pos rfl]
      by_cases h : i < 720 ∧ i % 60 = Z 0 1 % 60
      · rw [if_pos h, if_pos (by omega)]
      · rw [if_neg h, if_neg (by omega), if_neg (by omega)]
        exact if_neg (by omega)
    · rw [if_neg h10, if_neg (fun q => h10 q.1)]
      by_cases h11 : r = 11
      · subst h11
        rw [if_pos rfl, show bat Z (Z 0 0) 11 i = Z 11 i from if_neg (by omega)]
        by_cases h : i < 12
        · rw [if_pos ⟨rfl, h⟩, if_pos h]
        · rw [if_neg (fun q => h q.2), if_neg h]
      · rw [if_neg h11, if_neg (fun q => h11 q.1)]
        exact if_neg (fun q => h5 q.1)
theorem Ok_bat {S : St} (h : Ok S) (k : Nat) : Ok (bat S k) := fun r i => by
  have h5 := h.bd 5 i
  unfold bat
  split
  · rename_i q; exact okv_5 (by omega) (by omega)
  · exact h r i
theorem Ok_mem {S : St} (h : Ok S) (k : Nat) : Ok (mem S k) := fun r i => by
  have h1 := lnow_le S (i / 60) (S 0 0)
  have h2 := lnow_le S i (S 0 0)
  have h3 := h.e i
  unfold mem
  split
  · exact okv_o (by omega) (by omega) (by omega) (by omega) (by omega) (by omega) (by omega) (by omega) (by omega)
  · split
    · exact okv_o (by omega) (by omega) (by omega) (by omega) (by omega) (by omega) (by omega) (by omega) (by omega)
    · exact h r i
theorem mv_X3_goes : x_MV yX3_goes cX3_goes 4 (some FieldType.int) 0 := ⟨kw_518, kw_21, ⟨by decide +kernel, by decide +kernel⟩, by decide +kernel, kw_517, kw_11⟩
abbrev rm_X3_goes : Room := { frames := 3, cells := 0, slots := 0, locals := 68 }
set_option maxRecDepth 20000 in
set_option maxHeartbeats 2000000 in
theorem m_goes (hO : Ok B) (ht0 : B 0 1 < 10000) (hh : B 0 0 ≤ hw) : x_Ret l D kc A yX3_goes cX3_goes 4 (some FieldType.int) rm_X3_goes [.ref (ad 6)] (wl kc ad X (B) (th) ov (hw)) (some (.int (nI (mnt B).2))) (wl kc ad X ((mnt B).1) (th) ov (hw)) := by
  refine x_ret_of RX3 (by decide +kernel) rfl [some (.ref (ad 6)), none, none, none] (Nat.le_of_ble_eq_true rfl) rfl rfl ?_
  intro p e s m args below meth c M hr hlk hnm TB hAA
  have hB : ∀ r i, B r i < 2 ^ 31 := fun r i => Nat.lt_trans (hO.bd r i) (by decide)
  have J2 : ∀ (Z : St) (n0 : Nat), Ok Z → Z 0 0 = B 0 0 → xem Z (B 0 0) = (mnt B).1 → n0 = (mnt B).2 → ∀ b3 : Option Value, x_X p l e rm_X3_goes s m args below meth c D A 4 0 0 (MQ below (x_Qc D A (some (.int (nI (mnt B).2))) (wl kc ad X ((mnt B).1) (th) ov (hw))) args s rm_X3_goes.cells rm_X3_goes.slots A) (wl kc ad X (Z) (th) ov (hw)) 14 [some (.ref (ad 6)), some (.int (nI n0)), some (.int (nI 2)), b3] [] := by
    intro Z n0 hOZ hz e1 e2 b3
    have hn := hOZ.n
    have ht := hOZ.t
    have hB : ∀ r i, Z r i < 2 ^ 31 := fun r i => Nat.lt_trans (hOZ.bd r i) (by decide)
    have hY : Ok (bat Z (Z 0 0)) := Ok_bat hOZ _
    have L84 : ∀ (d k : Nat), k + d = 12 → ∀ b3 : Option Value, x_X p l e rm_X3_goes s m args below meth c D A 4 0 0 (MQ below (x_Qc D A (some (.int (nI (mnt B).2))) (wl kc ad X ((mnt B).1) (th) ov (hw))) args s rm_X3_goes.cells rm_X3_goes.slots A) (wl kc ad X (mem (bat Z (Z 0 0)) k) (th) ov (hw)) 84 [some (.ref (ad 6)), some (.int (nI n0)), some (.int (nI k)), b3] [] := by
      intro d
      induction d with
      | zero =>
        intro k hk b3
        refine x_iload2 M dX3_goes_84 ?_
        refine x_bipush (v := nI 12) M dX3_goes_85 (by decide +kernel) ?_
        refine n_icmp_ge (tgt := 136) M (by first | omega | exact hB _ _) (by first | omega | exact hB _ _) dX3_goes_87 (by decide) (fun q87 => ?_) (fun q87 => absurd q87 (by omega))
        refine x_iload1 M dX3_goes_136 ?_
        exact x_iret M hr hlk dX3_goes_137 ⟨by decide, by decide⟩ (by rw [e2]) (by rw [show k = 12 by omega, mem_xem, hz, e1])
      | succ d ih =>
        intro k hk b3
        have hm := Ok_mem hY k
        have hB : ∀ r i, mem (bat Z (Z 0 0)) k r i < 2 ^ 31 := fun r i => Nat.lt_trans (hm.bd r i) (by decide)
        have hv := lnow_le (bat Z (Z 0 0)) k ((bat Z (Z 0 0)) 0 0)
        refine x_iload2 M dX3_goes_84 ?_
        refine x_bipush (v := nI 12) M dX3_goes_85 (by decide +kernel) ?_
        refine n_icmp_ge (tgt := 136) M (by first | omega | exact hB _ _) (by first | omega | exact hB _ _) dX3_goes_87 (by decide) (fun q87 => absurd q87 (by omega)) (fun q87 => ?_)
        refine x_aload0 M dX3_goes_90 ?_
        refine x_iload2 M dX3_goes_91 ?_
        refine x_callV0 M TB hAA mv_X3_leastNow kw_534 dX3_goes_92 (m_leastNow (B := mem (bat Z (Z 0 0)) k) hm (w := k) (by omega)) rfl wl_M rfl rfl ⟨by decide, by decide⟩ ⟨by decide, by decide⟩ (Nat.le_of_ble_eq_true rfl) ?_
        rw [mem_n, mem_z]
        refine x_istore3 M dX3_goes_95 ?_
        refine x_aload0 M dX3_goes_96 ?_
        refine gM13 M TB kw_428 dX3_goes_97 ?_
        refine x_bipush (v := nI 60) M dX3_goes_100 (by decide +kernel) ?_
        refine x_iload2 M dX3_goes_102 ?_
        refine n_mul M dX3_goes_103 ?_
        refine x_aload0 M dX3_goes_104 ?_
        refine gM1 M TB kw_416 dX3_goes_105 ?_
        refine x_bipush (v := nI 60) M dX3_goes_108 (by decide +kernel) ?_
        refine n_rem M (by first | omega | exact hB _ _) (by omega) (by first | omega | exact hB _ _) dX3_goes_110 ?_
        refine n_add M dX3_goes_111 ?_
        refine x_iload3 M dX3_goes_112 ?_
        refine sM10 (v := (lnow (bat Z (Z 0 0)) k ((bat Z (Z 0 0)) 0 0))) M TB (by omega) rfl dX3_goes_113 ?_
        refine x_aload0 M dX3_goes_114 ?_
        refine gM14 M TB kw_429 dX3_goes_115 ?_
        refine x_iload2 M dX3_goes_118 ?_
        refine x_aload0 M dX3_goes_119 ?_
        refine gM14 M TB kw_429 dX3_goes_120 ?_
        refine x_iload2 M dX3_goes_123 ?_
        refine aM11 M TB (by omega) dX3_goes_124 ?_
        refine x_iload3 M dX3_goes_125 ?_
        refine x_callS0 M TB hAA mv_X3_lesser kw_538 dX3_goes_126 (m_lesser (B := (up (mem (bat Z (Z 0 0)) k) 10 (60 * k + mem (bat Z (Z 0 0)) k 0 1 % 60) (lnow (bat Z (Z 0 0)) k ((bat Z (Z 0 0)) 0 0)))) (a := (up (mem (bat Z (Z 0 0)) k) 10 (60 * k + mem (bat Z (Z 0 0)) k 0 1 % 60) (lnow (bat Z (Z 0 0)) k ((bat Z (Z 0 0)) 0 0))) 11 k) (b := (lnow (bat Z (Z 0 0)) k ((bat Z (Z 0 0)) 0 0))) (hm.e k) hv) rfl ⟨by decide, by decide⟩ ⟨by decide, by decide⟩ (Nat.le_of_ble_eq_true rfl) ?_
        refine sM11 (v := min ((up (mem (bat Z (Z 0 0)) k) 10 (60 * k + mem (bat Z (Z 0 0)) k 0 1 % 60) (lnow (bat Z (Z 0 0)) k ((bat Z (Z 0 0)) 0 0))) 11 k) (lnow (bat Z (Z 0 0)) k ((bat Z (Z 0 0)) 0 0))) M TB (by omega) rfl dX3_goes_129 ?_
        refine n_inc2 M dX3_goes_130 ?_
        refine x_goto (tgt := 84) M dX3_goes_133 (by decide) ?_
        exact x_ws (by rw [mem_1 (bat Z (Z 0 0)) (by omega)]) (ih (k + 1) (by omega) _)
    have L45 : ∀ (d k : Nat), k + d = Z 0 0 → ∀ b3 : Option Value, x_X p l e rm_X3_goes s m args below meth c D A 4 0 0 (MQ below (x_Qc D A (some (.int (nI (mnt B).2))) (wl kc ad X ((mnt B).1) (th) ov (hw))) args s rm_X3_goes.cells rm_X3_goes.slots A) (wl kc ad X (bat Z k) (th) ov (hw)) 45 [some (.ref (ad 6)), some (.int (nI n0)), some (.int (nI k)), b3] [] := by
      intro d
      induction d with
      | zero =>
        intro k hk b3
        have e0 : bat Z k 0 0 = Z 0 0 := bat_z _ _ _
        have hm := Ok_bat hOZ k
        have hB : ∀ r i, bat Z k r i < 2 ^ 31 := fun r i => Nat.lt_trans (hm.bd r i) (by decide)
        refine x_iload2 M dX3_goes_45 ?_
        refine x_aload0 M dX3_goes_46 ?_
        refine gM4 M TB kw_419 dX3_goes_47 ?_
        refine n_icmp_ge (tgt := 82) M (by first | omega | exact hB _ _) (by first | omega | exact hB _ _) dX3_goes_50 (by decide) (fun q50 => ?_) (fun q50 => absurd q50 (by omega))
        refine x_iconst (v := nI 0) M dX3_goes_82 (by decide +kernel) ?_
        refine x_istore2 M dX3_goes_83 ?_
        exact x_ws (by rw [mem_0, show k = Z 0 0 by omega]) (L84 12 0 (by omega) _)
      | succ d ih =>
        intro k hk b3
        have e0 : bat Z k 0 0 = Z 0 0 := bat_z _ _ _
        have hm := Ok_bat hOZ k
        have hB : ∀ r i, bat Z k r i < 2 ^ 31 := fun r i => Nat.lt_trans (hm.bd r i) (by decide)
        refine x_iload2 M dX3_goes_45 ?_
        refine x_aload0 M dX3_goes_46 ?_
        refine gM4 M TB kw_419 dX3_goes_47 ?_
        refine n_icmp_ge (tgt := 82) M (by first | omega | exact hB _ _) (by first | omega | exact hB _ _) dX3_goes_50 (by decide) (fun q50 => absurd q50 (by omega)) (fun q50 => ?_)
        refine x_aload0 M dX3_goes_53 ?_
        refine gM8 M TB kw_423 dX3_goes_54 ?_
        refine x_iload2 M dX3_goes_57 ?_
        refine x_dup2 M dX3_goes_58 rfl rfl ?_
        refine aM5 M TB (by omega) (by omega) dX3_goes_59 ?_
        refine x_aload0 M dX3_goes_60 ?_
        refine gM8 M TB kw_423 dX3_goes_61 ?_
        refine x_iload2 M dX3_goes_64 ?_
        refine aM5 M TB (by omega) (by omega) dX3_goes_65 ?_
        refine n_if_le (tgt := 73) M (by first | omega | exact hB _ _) dX3_goes_66 (by decide) (fun q66 => ?_) (fun q66 => ?_)
        · refine x_iconst (v := nI 0) M dX3_goes_73 (by decide +kernel) ?_
          refine n_sub M (by omega) dX3_goes_74 ?_
          refine sM5 M TB (by omega) (by omega) dX3_goes_75 ?_
          refine n_inc2 M dX3_goes_76 ?_
          refine x_goto (tgt := 45) M dX3_goes_79 (by decide) ?_
          exact x_ws (by rw [show bat Z k 5 k - 0 = bat Z k 5 k - 1 by omega, bat_1]) (ih (k + 1) (by omega) _)
        · refine x_iconst (v := nI 1) M dX3_goes_69 (by decide +kernel) ?_
          refine x_goto (tgt := 74) M dX3_goes_70 (by decide) ?_
          refine n_sub M (by omega) dX3_goes_74 ?_
          refine sM5 M TB (by omega) (by omega) dX3_goes_75 ?_
          refine n_inc2 M dX3_goes_76 ?_
          refine x_goto (tgt := 45) M dX3_goes_79 (by decide) ?_
          exact x_ws (by rw [bat_1]) (ih (k + 1) (by omega) _)
    refine x_iload2 M dX3_goes_14 ?_
    refine x_iconst (v := nI 2) M dX3_goes_15 (by decide +kernel) ?_
    refine n_icmp_ge (tgt := 43) M (by first | omega | exact hB _ _) (by first | omega | exact hB _ _) dX3_goes_16 (by decide) (fun q16 => ?_) (fun q16 => absurd q16 (by omega))
    refine x_iconst (v := nI 0) M dX3_goes_43 (by decide +kernel) ?_
    refine x_istore2 M dX3_goes_44 ?_
    exact x_ws (bat_0 Z ▸ rfl) (L45 (Z 0 0) 0 (by omega) _)
  have J1 : ∀ (Z : St) (n0 : Nat), Ok Z → Z 0 0 = B 0 0 → xem (slot Z).1 (B 0 0) = (mnt B).1 → n0 + (slot Z).2 = (mnt B).2 → ∀ b3 : Option Value, x_X p l e rm_X3_goes s m args below meth c D A 4 0 0 (MQ below (x_Qc D A (some (.int (nI (mnt B).2))) (wl kc ad X ((mnt B).1) (th) ov (hw))) args s rm_X3_goes.cells rm_X3_goes.slots A) (wl kc ad X (Z) (th) ov (hw)) 14 [some (.ref (ad 6)), some (.int (nI n0)), some (.int (nI 1)), b3] [] := by
    intro Z n0 hOZ hz e1 e2 b3
    have hn := hOZ.n
    have ht := hOZ.t
    have hB : ∀ r i, Z r i < 2 ^ 31 := fun r i => Nat.lt_trans (hOZ.bd r i) (by decide)
    cases hfo : nxt Z (Z 0 0) with
    | none =>
      rw [slot_n hfo] at e1 e2
      refine x_iload2 M dX3_goes_14 ?_
      refine x_iconst (v := nI 2) M dX3_goes_15 (by decide +kernel) ?_
      refine n_icmp_ge (tgt := 43) M (by first | omega | exact hB _ _) (by first | omega | exact hB _ _) dX3_goes_16 (by decide) (fun q16 => absurd q16 (by omega)) (fun q16 => ?_)
      refine x_aload0 M dX3_goes_19 ?_
      refine x_callV0 M TB hAA mv_X3_longest kw_519 dX3_goes_20 (m_longest hOZ) rfl wl_M rfl rfl ⟨by decide, by decide⟩ ⟨by decide, by decide⟩ (Nat.le_of_ble_eq_true rfl) ?_
      rw [hfo]
      refine x_istore3 M dX3_goes_23 ?_
      refine x_iload3 M dX3_goes_24 ?_
      refine x_iconst (v := (-1)) M dX3_goes_25 (by decide +kernel) ?_
      refine x_icmp_eq (tgt := 37) M dX3_goes_26 (by decide) (fun q26 => ?_) (fun q26 => absurd rfl q26)
      refine n_inc2 M dX3_goes_37 ?_
      refine x_goto (tgt := 14) M dX3_goes_40 (by decide) ?_
      exact J2 Z n0 hOZ hz e1 e2 _
    | some j =>
      have hj := nxt_of hfo
      rw [slot_s hfo] at e1 e2
      refine x_iload2 M dX3_goes_14 ?_
      refine x_iconst (v := nI 2) M dX3_goes_15 (by decide +kernel) ?_
      refine n_icmp_ge (tgt := 43) M (by first | omega | exact hB _ _) (by first | omega | exact hB _ _) dX3_goes_16 (by decide) (fun q16 => absurd q16 (by omega)) (fun q16 => ?_)
      refine x_aload0 M dX3_goes_19 ?_
      refine x_callV0 M TB hAA mv_X3_longest kw_519 dX3_goes_20 (m_longest hOZ) rfl wl_M rfl rfl ⟨by decide, by decide⟩ ⟨by decide, by decide⟩ (Nat.le_of_ble_eq_true rfl) ?_
      rw [hfo]
      refine x_istore3 M dX3_goes_23 ?_
      refine x_iload3 M dX3_goes_24 ?_
      refine x_iconst (v := (-1)) M dX3_goes_25 (by decide +kernel) ?_
      refine x_icmp_eq (tgt := 37) M dX3_goes_26 (by decide) (fun q26 => absurd q26 (nI_m1 (by omega))) (fun q26 => ?_)
      refine x_aload0 M dX3_goes_29 ?_
      refine x_iload3 M dX3_goes_30 ?_
      refine x_callV0 M TB hAA mv_X3_sends kw_523 dX3_goes_31 (m_sends (B := Z) hOZ (i := j) (by omega) (by omega)) rfl wl_M rfl rfl ⟨by decide, by decide⟩ ⟨by decide, by decide⟩ (Nat.le_of_ble_eq_true rfl) ?_
      refine n_inc1 M dX3_goes_34 ?_
      refine n_inc2 M dX3_goes_37 ?_
      refine x_goto (tgt := 14) M dX3_goes_40 (by decide) ?_
      exact J2 (sen Z j) (n0 + 1) (Ok_sen hOZ j) ((sen_0 Z j 0).trans hz) e1 e2 _
  have J0 : ∀ (Z : St) (n0 : Nat), Ok Z → Z 0 0 = B 0 0 → xem (slot (slot Z).1).1 (B 0 0) = (mnt B).1 → n0 + (slot Z).2 + (slot (slot Z).1).2 = (mnt B).2 → ∀ b3 : Option Value, x_X p l e rm_X3_goes s m args below meth c D A 4 0 0 (MQ below (x_Qc D A (some (.int (nI (mnt B).2))) (wl kc ad X ((mnt B).1) (th) ov (hw))) args s rm_X3_goes.cells rm_X3_goes.slots A) (wl kc ad X (Z) (th) ov (hw)) 14 [some (.ref (ad 6)), some (.int (nI n0)), some (.int (nI 0)), b3] [] := by
    intro Z n0 hOZ hz e1 e2 b3
    have hn := hOZ.n
    have ht := hOZ.t
    have hB : ∀ r i, Z r i < 2 ^ 31 := fun r i => Nat.lt_trans (hOZ.bd r i) (by decide)
    cases hfo : nxt Z (Z 0 0) with
    | none =>
      rw [slot_n hfo] at e1 e2
      refine x_iload2 M dX3_goes_14 ?_
      refine x_iconst (v := nI 2) M dX3_goes_15 (by decide +kernel) ?_
      refine n_icmp_ge (tgt := 43) M (by first | omega | exact hB _ _) (by first | omega | exact hB _ _) dX3_goes_16 (by decide) (fun q16 => absurd q16 (by omega)) (fun q16 => ?_)
      refine x_aload0 M dX3_goes_19 ?_
      refine x_callV0 M TB hAA mv_X3_longest kw_519 dX3_goes_20 (m_longest hOZ) rfl wl_M rfl rfl ⟨by decide, by decide⟩ ⟨by decide, by decide⟩ (Nat.le_of_ble_eq_true rfl) ?_
      rw [hfo]
      refine x_istore3 M dX3_goes_23 ?_
      refine x_iload3 M dX3_goes_24 ?_
      refine x_iconst (v := (-1)) M dX3_goes_25 (by decide +kernel) ?_
      refine x_icmp_eq (tgt := 37) M dX3_goes_26 (by decide) (fun q26 => ?_) (fun q26 => absurd rfl q26)
      refine n_inc2 M dX3_goes_37 ?_
      refine x_goto (tgt := 14) M dX3_goes_40 (by decide) ?_
      exact J1 Z n0 hOZ hz e1 e2 _
    | some j =>
      have hj := nxt_of hfo
      rw [slot_s hfo] at e1 e2
      refine x_iload2 M dX3_goes_14 ?_
      refine x_iconst (v := nI 2) M dX3_goes_15 (by decide +kernel) ?_
      refine n_icmp_ge (tgt := 43) M (by first | omega | exact hB _ _) (by first | omega | exact hB _ _) dX3_goes_16 (by decide) (fun q16 => absurd q16 (by omega)) (fun q16 => ?_)
      refine x_aload0 M dX3_goes_19 ?_
      refine x_callV0 M TB hAA mv_X3_longest kw_519 dX3_goes_20 (m_longest hOZ) rfl wl_M rfl rfl ⟨by decide, by decide⟩ ⟨by decide, by decide⟩ (Nat.le_of_ble_eq_true rfl) ?_
      rw [hfo]
      refine x_istore3 M dX3_goes_23 ?_
      refine x_iload3 M dX3_goes_24 ?_
      refine x_iconst (v := (-1)) M dX3_goes_25 (by decide +kernel) ?_
      refine x_icmp_eq (tgt := 37) M dX3_goes_26 (by decide) (fun q26 => absurd q26 (nI_m1 (by omega))) (fun q26 => ?_)
      refine x_aload0 M dX3_goes_29 ?_
      refine x_iload3 M dX3_goes_30 ?_
      refine x_callV0 M TB hAA mv_X3_sends kw_523 dX3_goes_31 (m_sends (B := Z) hOZ (i := j) (by omega) (by omega)) rfl wl_M rfl rfl ⟨by decide, by decide⟩ ⟨by decide, by decide⟩ (Nat.le_of_ble_eq_true rfl) ?_
      refine n_inc1 M dX3_goes_34 ?_
      refine n_inc2 M dX3_goes_37 ?_
      refine x_goto (tgt := 14) M dX3_goes_40 (by decide) ?_
      exact J1 (sen Z j) (n0 + 1) (Ok_sen hOZ j) ((sen_0 Z j 0).trans hz) e1 e2 _
  refine x_iconst (v := nI 0) M dX3_goes_0 (by decide +kernel) ?_
  refine x_istore1 M dX3_goes_1 ?_
  refine x_aload0 M dX3_goes_2 ?_
  refine x_dup M dX3_goes_3 rfl ?_
  refine gM1 M TB kw_416 dX3_goes_4 ?_
  refine x_iconst (v := nI 1) M dX3_goes_7 (by decide +kernel) ?_
  refine n_add M dX3_goes_8 ?_
  refine pM1 M TB kw_416 dX3_goes_9 ?_
  refine x_iconst (v := nI 0) M dX3_goes_12 (by decide +kernel) ?_
  refine x_istore2 M dX3_goes_13 ?_
  exact J0 (tick B) 0 (Ok_tick hO ht0) rfl rfl (by show 0 + _ + _ = _ + _; omega) _
theorem mv_X3_pass : x_MV yX3_pass cX3_pass 4 (some FieldType.int) 1 := ⟨kw_514, kw_21, ⟨by decide +kernel, by decide +kernel⟩, by decide +kernel, kw_512, kw_513⟩
abbrev rm_X3_pass : Room := { frames := 4, cells := 0, slots := 0, locals := 91 }
set_option maxRecDepth 20000 in
set_option maxHeartbeats 2000000 in
theorem m_pass (hO : Ok B) {n : Nat} (h1 : 1 ≤ n) (h2 : n ≤ 200) (ht0 : B 0 1 + n ≤ 10000) (hh : B 0 0 ≤ hw) : x_Ret l D kc A yX3_pass cX3_pass 4 (some FieldType.int) rm_X3_pass [.ref (ad 6), .int (nI n)] (wl kc ad X (B) (th) ov (hw)) (some (.int (nI (mnts B n).2))) (wl kc ad X ((mnts B n).1) (0) ov (hw)) := by
  refine x_ret_of RX3 (by decide +kernel) rfl [some (.ref (ad 6)), some (.int (nI n)), none, none] (Nat.le_of_ble_eq_true rfl) rfl rfl ?_
  intro p e s m args below meth c M hr hlk hnm TB hAA
  have hB : ∀ r i, B r i < 2 ^ 31 := fun r i => Nat.lt_trans (hO.bd r i) (by decide)
  have loop : ∀ (d k : Nat), k + d = n → x_X p l e rm_X3_pass s m args below meth c D A 4 0 0 (MQ below (x_Qc D A (some (.int (nI (mnts B n).2))) (wl kc ad X ((mnts B n).1) (0) ov (hw))) args s rm_X3_pass.cells rm_X3_pass.slots A) (wl kc ad X ((mnts B k).1) (0) ov (hw)) 45 [some (.ref (ad 6)), some (.int (nI n)), some (.int (nI (mnts B k).2)), some (.int (nI k))] [] := by
    intro d
    induction d with
    | zero =>
      intro k hk
      obtain ⟨hk1, hk2, hk3⟩ := mnts_ok hO k (by omega)
      refine x_iload3 M dX3_pass_45 ?_
      refine x_iload1 M dX3_pass_46 ?_
      refine n_icmp_ge (tgt := 63) M (by first | omega | exact hB _ _) (by first | omega | exact hB _ _) dX3_pass_47 (by decide) (fun q47 => ?_) (fun q47 => absurd q47 (by omega))
      refine x_iload2 M dX3_pass_63 ?_
      exact x_iret M hr hlk dX3_pass_64 ⟨by decide, by decide⟩ (by rw [show k = n by omega]) (by rw [show k = n by omega])
    | succ d ih =>
      intro k hk
      obtain ⟨hk1, hk2, hk3⟩ := mnts_ok hO k (by omega)
      refine x_iload3 M dX3_pass_45 ?_
      refine x_iload1 M dX3_pass_46 ?_
      refine n_icmp_ge (tgt := 63) M (by first | omega | exact hB _ _) (by first | omega | exact hB _ _) dX3_pass_47 (by decide) (fun q47 => absurd q47 (by omega)) (fun q47 => ?_)
      refine x_iload2 M dX3_pass_50 ?_
      refine x_aload0 M dX3_pass_51 ?_
      refine x_callV0 M TB hAA mv_X3_goes kw_515 dX3_pass_52 (m_goes (B := (mnts B k).1) hk1 (by omega) (by omega)) rfl wl_M rfl rfl ⟨by decide, by decide⟩ ⟨by decide, by decide⟩ (Nat.le_of_ble_eq_true rfl) ?_
      refine n_add M dX3_pass_55 ?_
      refine x_istore2 M dX3_pass_56 ?_
      refine n_inc3 M dX3_pass_57 ?_
      refine x_goto (tgt := 45) M dX3_pass_60 (by decide) ?_
      exact ih (k + 1) (by omega)
  refine x_aload0 M dX3_pass_0 ?_
  refine x_iload1 M dX3_pass_1 ?_
  refine x_iconst (v := nI 1) M dX3_pass_2 (by decide +kernel) ?_
  refine x_sipush (v := nI 200) M dX3_pass_3 (by decide +kernel) ?_
  refine x_callS0 M TB hAA mv_X3_isIn kw_472 dX3_pass_6 m_isIn rfl ⟨by decide, by decide⟩ ⟨by decide, by decide⟩ (Nat.le_of_ble_eq_true rfl) ?_
  refine b_if_ne (tgt := 16) M dX3_pass_9 (by decide) (fun q9 => ?_) (fun q9 => absurd ⟨nI_nlt h1 (by omega), nI_nlt h2 (by decide)⟩ q9)
  refine x_aload0 M dX3_pass_16 ?_
  refine gM1 M TB kw_416 dX3_pass_17 ?_
  refine x_iload1 M dX3_pass_20 ?_
  refine n_add M dX3_pass_21 ?_
  refine x_sipush (v := nI 10000) M dX3_pass_22 (by decide +kernel) ?_
  refine n_icmp_le (tgt := 32) M (by first | omega | exact hB _ _) (by first | omega | exact hB _ _) dX3_pass_25 (by decide) (fun q25 => ?_) (fun q25 => absurd ht0 (by omega))
  refine x_iconst (v := nI 0) M dX3_pass_32 (by decide +kernel) ?_
  refine x_callV0 M TB hAA mv_X3_holds kw_475 dX3_pass_33 m_holds0 rfl wl_M rfl rfl ⟨by decide, by decide⟩ ⟨by decide, by decide⟩ (Nat.le_of_ble_eq_true rfl) ?_
  refine n_if_ne (tgt := 41) M (by first | omega | exact hB _ _) dX3_pass_36 (by decide) (fun q36 => ?_) (fun q36 => absurd q36 (by decide))
  refine x_iconst (v := nI 0) M dX3_pass_41 (by decide +kernel) ?_
  refine x_istore2 M dX3_pass_42 ?_
  refine x_iconst (v := nI 0) M dX3_pass_43 (by decide +kernel) ?_
  refine x_istore3 M dX3_pass_44 ?_
  exact loop n 0 (by omega)
set_option maxRecDepth 20000 in
set_option maxHeartbeats 2000000 in
theorem m_pass1 {x : Int32} (h : ¬ (¬ x < nI 1 ∧ x ≤ nI 200)) : x_Ret l D kc A yX3_pass cX3_pass 4 (some FieldType.int) rm_X3_pass [.ref (ad 6), .int x] (wl kc ad X (B) (th) ov (hw)) (some (.int (nI 0))) (wl kc ad X (B) (1) ov (hw)) := by
  refine x_ret_of RX3 (by decide +kernel) rfl [some (.ref (ad 6)), some (.int x), none, none] (Nat.le_of_ble_eq_true rfl) rfl rfl ?_
  intro p e s m args below meth c M hr hlk hnm TB hAA
  refine x_aload0 M dX3_pass_0 ?_
  refine x_iload1 M dX3_pass_1 ?_
  refine x_iconst (v := nI 1) M dX3_pass_2 (by decide +kernel) ?_
  refine x_sipush (v := nI 200) M dX3_pass_3 (by decide +kernel) ?_
  refine x_callS0 M TB hAA mv_X3_isIn kw_472 dX3_pass_6 m_isIn rfl ⟨by decide, by decide⟩ ⟨by decide, by decide⟩ (Nat.le_of_ble_eq_true rfl) ?_
  refine b_if_ne (tgt := 16) M dX3_pass_9 (by decide) (fun q9 => (h ⟨q9.1, Int32.not_lt.mp q9.2⟩).elim) (fun q9 => ?_)
  refine x_iconst (v := nI 1) M dX3_pass_12 (by decide +kernel) ?_
  refine x_goto (tgt := 33) M dX3_pass_13 (by decide) ?_
  refine x_callV0 M TB hAA mv_X3_holds kw_475 dX3_pass_33 (m_holds1 (t := 1) (by decide) (by decide)) rfl wl_M rfl rfl ⟨by decide, by decide⟩ ⟨by decide, by decide⟩ (Nat.le_of_ble_eq_true rfl) ?_
  refine n_if_ne (tgt := 41) M (by first | omega | exact hB _ _) dX3_pass_36 (by decide) (fun q36 => absurd rfl q36) (fun q36 => ?_)
  refine x_iconst (v := nI 0) M dX3_pass_39 (by decide +kernel) ?_
  exact x_iret M hr hlk dX3_pass_40 ⟨by decide, by decide⟩ rfl rfl
set_option maxRecDepth 20000 in
set_option maxHeartbeats 2000000 in
theorem m_pass2 (hO : Ok B) {n : Nat} (h1 : 1 ≤ n) (h2 : n ≤ 200) (ht0 : 10000 < B 0 1 + n) : x_Ret l D kc A yX3_pass cX3_pass 4 (some FieldType.int) rm_X3_pass [.ref (ad 6), .int (nI n)] (wl kc ad X (B) (th) ov (hw)) (some (.int (nI 0))) (wl kc ad X (B) (2) ov (hw)) := by
  refine x_ret_of RX3 (by decide +kernel) rfl [some (.ref (ad 6)), some (.int (nI n)), none, none] (Nat.le_of_ble_eq_true rfl) rfl rfl ?_
  intro p e s m args below meth c M hr hlk hnm TB hAA
  have hB : ∀ r i, B r i < 2 ^ 31 := fun r i => Nat.lt_trans (hO.bd r i) (by decide)
  have htt := hO.t
  refine x_aload0 M dX3_pass_0 ?_
  refine x_iload1 M dX3_pass_1 ?_
  refine x_iconst (v := nI 1) M dX3_pass_2 (by decide +kernel) ?_
  refine x_sipush (v := nI 200) M dX3_pass_3 (by decide +kernel) ?_
  refine x_callS0 M TB hAA mv_X3_isIn kw_472 dX3_pass_6 m_isIn rfl ⟨by decide, by decide⟩ ⟨by decide, by decide⟩ (Nat.le_of_ble_eq_true rfl) ?_
  refine b_if_ne (tgt := 16) M dX3_pass_9 (by decide) (fun q9 => ?_) (fun q9 => absurd ⟨nI_nlt h1 (by omega), nI_nlt h2 (by decide)⟩ q9)
  refine x_aload0 M dX3_pass_16 ?_
  refine gM1 M TB kw_416 dX3_pass_17 ?_
  refine x_iload1 M dX3_pass_20 ?_
  refine n_add M dX3_pass_21 ?_
  refine x_sipush (v := nI 10000) M dX3_pass_22 (by decide +kernel) ?_
  refine n_icmp_le (tgt := 32) M (by first | omega | exact hB _ _) (by first | omega | exact hB _ _) dX3_pass_25 (by decide) (fun q25 => absurd ht0 (by omega)) (fun q25 => ?_)
  refine x_iconst (v := nI 2) M dX3_pass_28 (by decide +kernel) ?_
  refine x_goto (tgt := 33) M dX3_pass_29 (by decide) ?_
  refine x_callV0 M TB hAA mv_X3_holds kw_475 dX3_pass_33 (m_holds1 (t := 2) (by decide) (by decide)) rfl wl_M rfl rfl ⟨by decide, by decide⟩ ⟨by decide, by decide⟩ (Nat.le_of_ble_eq_true rfl) ?_
  refine n_if_ne (tgt := 41) M (by first | omega | exact hB _ _) dX3_pass_36 (by decide) (fun q36 => absurd rfl q36) (fun q36 => ?_)
  refine x_iconst (v := nI 0) M dX3_pass_39 (by decide +kernel) ?_
  exact x_iret M hr hlk dX3_pass_40 ⟨by decide, by decide⟩ rfl rfl
end XM
