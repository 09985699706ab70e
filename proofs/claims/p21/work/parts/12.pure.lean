/-! what holds of the state in every run: Ok; and how the shop's functions keep it -/
def okv (r i v : Nat) : Prop := v < 2 ^ 30 ∧ (r = 0 → i = 0 → v ≤ 12) ∧ (r = 0 → i = 1 → v ≤ 10000) ∧ (r = 1 → v < 10000) ∧ (r = 2 → v < 12) ∧ (r = 3 → v < 10000) ∧ (r = 4 → v ≤ 9) ∧ (r = 10 → v ≤ 10000) ∧ (r = 11 → v ≤ 10000)
def Ok (S : St) : Prop := ∀ r i, okv r i (S r i)
theorem Ok.bd {S : St} (h : Ok S) : Bd S := fun r i => (h r i).1
theorem Ok.n {S : St} (h : Ok S) : S 0 0 ≤ 12 := (h 0 0).2.1 rfl rfl
theorem Ok.t {S : St} (h : Ok S) : S 0 1 ≤ 10000 := (h 0 1).2.2.1 rfl rfl
theorem Ok.p {S : St} (h : Ok S) (i : Nat) : S 1 i < 10000 := (h 1 i).2.2.2.1 rfl
theorem Ok.w {S : St} (h : Ok S) (i : Nat) : S 2 i < 12 := (h 2 i).2.2.2.2.1 rfl
theorem Ok.s {S : St} (h : Ok S) (i : Nat) : S 3 i < 10000 := (h 3 i).2.2.2.2.2.1 rfl
theorem Ok.g {S : St} (h : Ok S) (i : Nat) : S 4 i ≤ 9 := (h 4 i).2.2.2.2.2.2.1 rfl
theorem Ok.l {S : St} (h : Ok S) (i : Nat) : S 10 i ≤ 10000 := (h 10 i).2.2.2.2.2.2.2.1 rfl
theorem Ok.e {S : St} (h : Ok S) (i : Nat) : S 11 i ≤ 10000 := (h 11 i).2.2.2.2.2.2.2.2 rfl
theorem Ok_up {S : St} (h : Ok S) {r i v : Nat} (hv : okv r i v) : Ok (up S r i v) := fun r2 i2 => by
  unfold up
  split
  · rename_i q; rw [q.1, q.2]; exact hv
  · exact h r2 i2
theorem okv_5 {r i v : Nat} (h : v < 2 ^ 30) (hr : r = 5 ∨ r = 6 ∨ r = 7 ∨ r = 8 ∨ r = 9) : okv r i v := by
  unfold okv
  refine ⟨h, ?_, ?_, ?_, ?_, ?_, ?_, ?_, ?_⟩ <;> omega
theorem okv_o {r i v : Nat} (h : v < 2 ^ 30) (h0 : r = 0 → i = 0 → v ≤ 12) (h1 : r = 0 → i = 1 → v ≤ 10000) (h2 : r = 1 → v < 10000) (h3 : r = 2 → v < 12) (h4 : r = 3 → v < 10000) (h5 : r = 4 → v ≤ 9) (h6 : r = 10 → v ≤ 10000) (h7 : r = 11 → v ≤ 10000) : okv r i v := ⟨h, h0, h1, h2, h3, h4, h5, h6, h7⟩
theorem Ok_redr {S : St} (h : Ok S) (i : Nat) : Ok (redr S i) := by
  have h4 := digs_4 (S 3 i) (S 1 (S 2 i))
  have h5 := h.bd 5 i
  have hp := h.p (S 2 i)
  unfold redr
  split
  · exact h
  · split
    · exact Ok_up (Ok_up (Ok_up h (okv_5 (by omega) (by omega))) (okv_o (by omega) (by omega) (by omega) (by omega) (by omega) (by omega) (by omega) (by omega) (by omega))) (okv_o (by omega) (by omega) (by omega) (by omega) (by omega) (by omega) (by omega) (by omega) (by omega))
    · exact Ok_up (Ok_up (Ok_up h (okv_5 (by omega) (by omega))) (okv_o (by omega) (by omega) (by omega) (by omega) (by omega) (by omega) (by omega) (by omega) (by omega))) (okv_o (by omega) (by omega) (by omega) (by omega) (by omega) (by omega) (by omega) (by omega) (by omega))
theorem Ok_answ {S : St} (h : Ok S) (i : Nat) : Ok (answ S i) := by
  have := h.bd 7 i
  unfold answ
  split
  · exact Ok_up h (okv_5 (by omega) (by omega))
  · exact Ok_up h (okv_5 (by omega) (by omega))
theorem Ok_sen {S : St} (h : Ok S) (i : Nat) : Ok (sen S i) := by
  have ht := h.t
  have h1 : Ok (up S 9 i (S 0 1 + 5)) := Ok_up h (okv_5 (by omega) (by omega))
  have := h1.bd 6 i
  unfold sen sen1
  split
  · exact Ok_up h1 (okv_5 (by omega) (by omega))
  · split
    · exact Ok_answ (Ok_redr h1 i) i
    · exact h1
theorem Ok_slot {S : St} (h : Ok S) : Ok (slot S).1 := by
  unfold slot
  split
  · exact h
  · exact Ok_sen h _
theorem Ok_tick {S : St} (h : Ok S) (ht : S 0 1 < 10000) : Ok (tick S) := Ok_up h (okv_o (by omega) (by omega) (by omega) (by omega) (by omega) (by omega) (by omega) (by omega) (by omega))
theorem lnow_le (S : St) (w : Nat) : ∀ k, lnow S w k ≤ 10000
  | 0 => Nat.le_refl _
  | k + 1 => by
    have := lnow_le S w k
    unfold lnow
    split
    · omega
    · exact this
theorem lhr_le (S : St) (w : Nat) : ∀ k, lhr S w k ≤ 10000
  | 0 => Nat.le_refl _
  | k + 1 => by
    have := lhr_le S w k
    unfold lhr
    omega
theorem Ok_xem {S : St} (h : Ok S) (k : Nat) : Ok (xem S k) := fun r i => by
  have h5 := h.bd 5 i
  have h1 := lnow_le S (i / 60) k
  have h2 := lnow_le S i k
  have h3 := h.e i
  unfold xem
  split
  · rename_i q
    subst q
    split <;> exact okv_5 (by omega) (by omega)
  · split
    · rename_i q
      subst q
      split
      · exact okv_o (by omega) (by omega) (by omega) (by omega) (by omega) (by omega) (by omega) (by omega) (by omega)
      · exact h 10 i
    · split
      · rename_i q
        subst q
        split
        · exact okv_o (by omega) (by omega) (by omega) (by omega) (by omega) (by omega) (by omega) (by omega) (by omega)
        · exact h 11 i
      · exact h r i
theorem nxt_n {S : St} {k : Nat} (h : nxt S k = none) : nxt S (k + 1) = if due S k then some k else none := by simp only [nxt, h]
theorem nxt_s {S : St} {k j : Nat} (h : nxt S k = some j) : nxt S (k + 1) = if due S k ∧ bef S k j then some k else some j := by simp only [nxt, h]
theorem nxt_of {S : St} : ∀ {k j : Nat}, nxt S k = some j → j < k ∧ due S j
  | 0, j, h => by cases h
  | k + 1, j, h => by
    cases e : nxt S k with
    | none =>
      rw [nxt_n e] at h
      split at h
      · cases h; rename_i q; exact ⟨by omega, q⟩
      · cases h
    | some i =>
      rw [nxt_s e] at h
      have := nxt_of e
      split at h
      · cases h; rename_i q; exact ⟨by omega, q.1⟩
      · cases h; exact ⟨by omega, this.2⟩
theorem lnow_w {S : St} {w k : Nat} (h : S 2 k = w) : lnow S w (k + 1) = min (lnow S w k) (S 3 k) := if_pos h
theorem lnow_n {S : St} {w k : Nat} (h : ¬ S 2 k = w) : lnow S w (k + 1) = lnow S w k := if_neg h
theorem xem_5 {S : St} {k i : Nat} : xem S k 5 i = if i < k then S 5 i - 1 else S 5 i := rfl
theorem xem_10 {S : St} {k i : Nat} : xem S k 10 i = if i < 720 ∧ i % 60 = S 0 1 % 60 then lnow S (i / 60) k else S 10 i := rfl
theorem xem_11 {S : St} {k i : Nat} : xem S k 11 i = if i < 12 then min (S 11 i) (lnow S i k) else S 11 i := rfl
/-- a minute's rows, opened -/
def opn (S : St) : St := fun r i => if r = 10 then (if i < 720 ∧ i % 60 = S 0 1 % 60 then 10000 else S 10 i) else S r i
theorem xem_0 {S : St} (h : Ok S) : opn S = xem S 0 := by
  funext r i
  unfold opn xem
  by_cases h5 : r = 5
  · subst h5; simp
  · by_cases h10 : r = 10
    · subst h10; rfl
    · by_cases h11 : r = 11
      · subst h11
        have := h.e i
        show S 11 i = if i < 12 then min (S 11 i) 10000 else S 11 i
        split
        · rw [Nat.min_eq_left this]
        · rfl
      · simp [h5, h10, h11]
/-- a label's part of the end of a minute -/
theorem xem_1 {S : St} {k : Nat} (hw : S 2 k < 12) :
    up (up (up (xem S k) 5 k (xem S k 5 k - 1)) 10 (60 * S 2 k + S 0 1 % 60) (min (up (xem S k) 5 k (xem S k 5 k - 1) 10 (60 * S 2 k + S 0 1 % 60)) (S 3 k))) 11 (S 2 k) (min (up (xem S k) 5 k (xem S k 5 k - 1) 11 (S 2 k)) (S 3 k)) = xem S (k + 1) := by
  have hq : S 0 1 % 60 < 60 := Nat.mod_lt _ (by decide)
  have e5 : xem S k 5 k = S 5 k := by unfold xem; rw [if_pos rfl, if_neg (Nat.lt_irrefl _)]
  have e10 : up (xem S k) 5 k (xem S k 5 k - 1) 10 (60 * S 2 k + S 0 1 % 60) = lnow S (S 2 k) k := by
    rw [up_r _ (by decide)]
    unfold xem
    rw [if_neg (by decide), if_pos rfl, if_pos (by omega), show (60 * S 2 k + S 0 1 % 60) / 60 = S 2 k by omega]
  have e11 : up (xem S k) 5 k (xem S k 5 k - 1) 11 (S 2 k) = min (S 11 (S 2 k)) (lnow S (S 2 k) k) := by
    rw [up_r _ (by decide)]
    unfold xem
    rw [if_neg (by decide), if_neg (by decide), if_pos rfl, if_pos hw]
  rw [e10, e11, e5]
  funext r i
  by_cases h5 : r = 5
  · subst h5
    rw [up_r _ (by decide), up_r _ (by decide)]
    by_cases hi : i = k
    · subst hi
      rw [up_s]
      unfold xem
      rw [if_pos rfl, if_pos (by omega)]
    · rw [up_i _ hi]
      unfold xem
      rw [if_pos rfl, if_pos rfl]
      by_cases hl : i < k
      · rw [if_pos hl, if_pos (by omega)]
      · rw [if_neg hl, if_neg (by omega)]
  · by_cases h10 : r = 10
    · subst h10
      rw [up_r _ (by decide)]
      by_cases hi : i = 60 * S 2 k + S 0 1 % 60
      · rw [hi, up_s]
        unfold xem
        rw [if_neg (by decide), if_pos rfl, if_pos (by omega), show (60 * S 2 k + S 0 1 % 60) / 60 = S 2 k by omega, lnow_w rfl]
      · rw [up_i _ hi, up_r _ (by decide), xem_10, xem_10]
        by_cases hc : i < 720 ∧ i % 60 = S 0 1 % 60
        · rw [if_pos hc, if_pos hc, lnow_n (by omega)]
        · rw [if_neg hc, if_neg hc]
    · by_cases h11 : r = 11
      · subst h11
        by_cases hi : i = S 2 k
        · rw [hi, up_s]
          unfold xem
          rw [if_neg (by decide), if_neg (by decide), if_pos rfl, if_pos hw, lnow_w rfl, Nat.min_assoc]
        · rw [up_i _ hi, up_r _ (by decide), up_r _ (by decide), xem_11, xem_11, lnow_n (fun q => hi q.symm)]
      · rw [up_r _ h11, up_r _ h10, up_r _ h5]
        unfold xem
        rw [if_neg h5, if_neg h10, if_neg h11, if_neg h5, if_neg h10, if_neg h11]
