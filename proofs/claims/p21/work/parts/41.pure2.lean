/-! what a minute does to each label, how many are touched; what every step keeps (Iv); the law's own numbers (cS, hS) as told by the shop's state -/
/-- what a sending does to the numbers of the label i -/
def Ef (S T : St) (i : Nat) : Prop := (∀ r k, r = 0 ∨ r = 1 ∨ r = 2 ∨ r = 10 ∨ r = 11 → T r k = S r k) ∧ (∀ r k, k ≠ i → T r k = S r k) ∧
  ((T 3 i = S 3 i ∧ T 4 i = S 4 i ∧ T 5 i = S 5 i ∧ T 8 i = S 8 i) ∨ (20 ≤ S 5 i ∧ T 3 i = redr S i 3 i ∧ T 4 i = redr S i 4 i ∧ T 5 i = redr S i 5 i ∧ (T 8 i = S 8 i ∨ T 8 i = 0)))
theorem redr_o (S : St) {i r k : Nat} (h : (r ≠ 3 ∧ r ≠ 4 ∧ r ≠ 5) ∨ k ≠ i) : redr S i r k = S r k := by
  unfold redr
  split
  · rfl
  · split <;> (rw [up_n _ (by omega), up_n _ (by omega), up_n _ (by omega)])
theorem redr_c {S T : St} {i : Nat} (h : ∀ r, r = 1 ∨ r = 2 ∨ r = 3 ∨ r = 4 ∨ r = 5 → ∀ k, T r k = S r k) {r k : Nat} (hr : r = 3 ∨ r = 4 ∨ r = 5) : redr T i r k = redr S i r k := by
  have h1 := h 1 (by omega)
  have h2 := h 2 (by omega)
  have h3 := h 3 (by omega)
  have h4 := h 4 (by omega)
  have h5 := h 5 (by omega)
  unfold redr
  rw [h3, h2, h1, h4, h5]
  split
  · exact h r (by omega) k
  · split
    · unfold up
      split
      · rfl
      · split
        · rfl
        · split
          · rfl
          · exact h r (by omega) k
    · unfold up
      split
      · rfl
      · split
        · rfl
        · split
          · rfl
          · exact h r (by omega) k
theorem answ_o (S : St) {i r k : Nat} (h : (r ≠ 7 ∧ r ≠ 8) ∨ k ≠ i) : answ S i r k = S r k := by
  unfold answ
  split <;> rw [up_n _ (by omega)]
theorem answ_8 (S : St) (i : Nat) : answ S i 8 i = S 8 i ∨ answ S i 8 i = 0 := by
  unfold answ
  split
  · exact Or.inl (up_n _ (by omega))
  · exact Or.inr (up_s _ _ _ _)
theorem sen_ef (S : St) (i : Nat) : Ef S (sen S i) i := by
  have hY : ∀ r, r ≠ 9 → ∀ k, up S 9 i (S 0 1 + 5) r k = S r k := fun r hr k => up_n _ (by omega)
  unfold sen sen1
  split
  · refine ⟨fun r k h => ?_, fun r k h => ?_, Or.inl ⟨?_, ?_, ?_, ?_⟩⟩ <;> rw [up_n _ (by omega), up_n _ (by omega)]
  · split
    · rename_i h20
      rw [hY 5 (by decide)] at h20
      refine ⟨fun r k h => ?_, fun r k h => ?_, Or.inr ⟨h20, ?_, ?_, ?_, ?_⟩⟩
      · rw [answ_o _ (by omega), redr_o _ (by omega), hY r (by omega)]
      · rw [answ_o _ (by omega), redr_o _ (by omega), up_n _ (by omega)]
      · rw [answ_o _ (by omega), redr_c (fun r hr k => hY r (by omega) k) (by omega)]
      · rw [answ_o _ (by omega), redr_c (fun r hr k => hY r (by omega) k) (by omega)]
      · rw [answ_o _ (by omega), redr_c (fun r hr k => hY r (by omega) k) (by omega)]
      · have e : redr (up S 9 i (S 0 1 + 5)) i 8 i = S 8 i := by rw [redr_o _ (by omega), hY 8 (by decide)]
        rcases answ_8 (redr (up S 9 i (S 0 1 + 5)) i) i with h | h
        · exact Or.inl (h.trans e)
        · exact Or.inr h
    · refine ⟨fun r k h => ?_, fun r k h => ?_, Or.inl ⟨?_, ?_, ?_, ?_⟩⟩ <;> rw [up_n _ (by omega)]
/-- which labels are sent to in the next minute -/
def s1 (X : St) : Option Nat := nxt (tick X) (X 0 0)
def s2 (X : St) : Option Nat := nxt (slot (tick X)).1 (X 0 0)
def bel (o : Option Nat) (k : Nat) : Nat := match o with
  | none => 0
  | some j => if j < k then 1 else 0
theorem slot_st (S : St) : slot S = (match nxt S (S 0 0) with | none => S | some i => sen S i, bel (nxt S (S 0 0)) (S 0 0)) := by
  unfold slot
  cases h : nxt S (S 0 0) with
  | none => rfl
  | some i =>
    show (sen S i, 1) = (sen S i, if i < S 0 0 then 1 else 0)
    rw [if_pos (nxt_of h).1]
theorem slot_0' (X : St) : (slot (tick X)).1 0 0 = X 0 0 := slot_0 _ _
theorem mnt_2 (X : St) : (mnt X).2 = bel (s1 X) (X 0 0) + bel (s2 X) (X 0 0) := by
  show (slot (tick X)).2 + (slot (slot (tick X)).1).2 = _
  have e1 : (slot (tick X)).2 = bel (s1 X) (X 0 0) := by rw [slot_st]; rfl
  have e2 : (slot (slot (tick X)).1).2 = bel (s2 X) (X 0 0) := by
    rw [slot_st]
    show bel (nxt (slot (tick X)).1 ((slot (tick X)).1 0 0)) ((slot (tick X)).1 0 0) = _
    rw [slot_0']
    rfl
  rw [e1, e2]
theorem slot_k {S : St} (k : Nat) (h : nxt S (S 0 0) ≠ some k) : ∀ r, (slot S).1 r k = S r k := by
  intro r
  cases h2 : nxt S (S 0 0) with
  | none => rw [slot_n h2]
  | some j =>
    rw [slot_s h2]
    exact (sen_ef S j).2.1 r k (fun q => h (by rw [h2, q]))
theorem slot_g {S : St} (r k : Nat) (h : r = 0 ∨ r = 1 ∨ r = 2 ∨ r = 10 ∨ r = 11) : (slot S).1 r k = S r k := by
  cases h2 : nxt S (S 0 0) with
  | none => rw [slot_n h2]
  | some j =>
    rw [slot_s h2]
    exact (sen_ef S j).1 r k h
theorem sen_9 (S : St) (i : Nat) : sen S i 9 i = S 0 1 + 5 := by
  unfold sen sen1
  split
  · rw [up_n _ (by omega), up_s]
  · split
    · rw [answ_o _ (by omega), redr_o _ (by omega), up_s]
    · exact up_s _ _ _ _
/-- the second is another than the first -/
theorem s12 {X : St} {k : Nat} (h1 : s1 X = some k) (h2 : s2 X = some k) : False := by
  have e1 : slot (tick X) = (sen (tick X) k, 1) := slot_s h1
  have h3 := (nxt_of h2).2.2
  rw [e1] at h3
  have h4 : sen (tick X) k 9 k ≤ sen (tick X) k 0 1 := h3
  rw [sen_9, sen_0] at h4
  omega
theorem tick_r (X : St) {r k : Nat} (h : r ≠ 0 ∨ k ≠ 1) : tick X r k = X r k := up_n _ (by omega)
/-- what a minute does to the label k -/
def Un2 (X T : St) (k : Nat) : Prop := T 3 k = X 3 k ∧ T 4 k = X 4 k ∧ T 5 k = X 5 k ∧ T 8 k = X 8 k
def Wk (X T : St) (k : Nat) : Prop := 20 ≤ X 5 k ∧ X 8 k ≠ 0 ∧ T 3 k = redr X k 3 k ∧ T 4 k = redr X k 4 k ∧ T 5 k = redr X k 5 k ∧ (T 8 k = X 8 k ∨ T 8 k = 0)
/-- the state after both slots -/
def sl2 (X : St) : St := (slot (slot (tick X)).1).1
theorem sl2_g (X : St) (r k : Nat) (h : r = 1 ∨ r = 2 ∨ r = 10 ∨ r = 11) : sl2 X r k = X r k := by
  unfold sl2
  rw [slot_g _ _ (by omega), slot_g _ _ (by omega), tick_r _ (by omega)]
theorem sl2_0 (X : St) : sl2 X 0 0 = X 0 0 ∧ sl2 X 0 1 = X 0 1 + 1 ∧ sl2 X 0 2 = X 0 2 := by
  unfold sl2
  refine ⟨?_, ?_, ?_⟩ <;> (rw [slot_0, slot_0]; rfl)
theorem ef_wk {S T : St} {X : St} {k : Nat} (h : Ef S T k) (hk : ∀ r, r ≠ 0 → S r k = X r k) (hr : ∀ r, r = 1 ∨ r = 2 → ∀ i, S r i = X r i) (ho : X 8 k ≠ 0) : Un2 X T k ∨ Wk X T k := by
  have hk3 := hk 3 (by decide)
  have hk4 := hk 4 (by decide)
  have hk5 := hk 5 (by decide)
  have hk8 := hk 8 (by decide)
  have hk2 := hk 2 (by decide)
  have hrr : ∀ r, r = 3 ∨ r = 4 ∨ r = 5 → redr S k r k = redr X k r k := by
    intro r h9
    unfold redr
    rw [hk3, hk2, hr 1 (by omega), hk4, hk5]
    split
    · exact hk r (by omega)
    · split
      · unfold up
        split
        · rfl
        · split
          · rfl
          · split
            · rfl
            · exact hk r (by omega)
      · unfold up
        split
        · rfl
        · split
          · rfl
          · split
            · rfl
            · exact hk r (by omega)
  rcases h.2.2 with ⟨a, b, c, d⟩ | ⟨a, b, c, d, e⟩
  · exact Or.inl ⟨a.trans hk3, b.trans hk4, c.trans hk5, d.trans hk8⟩
  · exact Or.inr ⟨by omega, ho, b.trans (hrr 3 (by omega)), c.trans (hrr 4 (by omega)), d.trans (hrr 5 (by omega)), e.imp (fun q => q.trans hk8) id⟩
theorem s1_o {X : St} {k : Nat} (h : s1 X = some k) : k < X 0 0 ∧ X 8 k ≠ 0 := by
  have h1 := nxt_of h
  exact ⟨h1.1, h1.2.1⟩
theorem s2_o {X : St} {k : Nat} (h : s2 X = some k) : k < X 0 0 ∧ X 8 k ≠ 0 := by
  have h1 := nxt_of h
  have h2 : (slot (tick X)).1 8 k = tick X 8 k := slot_k k (fun q => s12 q h) 8
  have h3 : (slot (tick X)).1 8 k ≠ 0 := h1.2.1
  rw [h2] at h3
  exact ⟨h1.1, h3⟩
theorem sl2_lab (X : St) (k : Nat) : Un2 X (sl2 X) k ∨ (Wk X (sl2 X) k ∧ (s1 X = some k ∨ s2 X = some k)) := by
  by_cases h1 : s1 X = some k
  · have h2 : s2 X ≠ some k := fun q => s12 h1 q
    have e1 : slot (tick X) = (sen (tick X) k, 1) := slot_s h1
    have e2 : ∀ r, sl2 X r k = sen (tick X) k r k := fun r => by
      unfold sl2
      rw [slot_k k (by rw [slot_0']; exact h2) r, e1]
    have h3 := sen_ef (tick X) k
    rcases ef_wk h3 (fun r hr => tick_r X (Or.inl hr)) (fun r hr i => tick_r X (by omega)) (s1_o h1).2 with h4 | h4
    · refine Or.inl ?_
      unfold Un2 at h4 ⊢
      rw [e2, e2, e2, e2]
      exact h4
    · refine Or.inr ⟨?_, Or.inl h1⟩
      unfold Wk at h4 ⊢
      rw [e2, e2, e2, e2]
      exact h4
  · have e1 : ∀ r, (slot (tick X)).1 r k = tick X r k := slot_k k h1
    by_cases h2 : s2 X = some k
    · have e2 : slot (slot (tick X)).1 = (sen (slot (tick X)).1 k, 1) := slot_s (by rw [slot_0']; exact h2)
      have e3 : sl2 X = sen (slot (tick X)).1 k := by unfold sl2; rw [e2]
      rw [e3]
      rcases ef_wk (sen_ef (slot (tick X)).1 k) (fun r hr => (e1 r).trans (tick_r X (Or.inl hr))) (fun r hr i => (slot_g r i (by omega)).trans (tick_r X (by omega))) (s2_o h2).2 with h4 | h4
      · exact Or.inl h4
      · exact Or.inr ⟨h4, Or.inr h2⟩
    · refine Or.inl ?_
      have e2 : ∀ r, r ≠ 0 → sl2 X r k = X r k := fun r hr => by
        unfold sl2
        rw [slot_k k (by rw [slot_0']; exact h2) r, e1, tick_r X (Or.inl hr)]
      exact ⟨e2 3 (by decide), e2 4 (by decide), e2 5 (by decide), e2 8 (by decide)⟩
theorem mnt_x (X : St) : (mnt X).1 = xem (sl2 X) (X 0 0) := rfl
theorem mnt_r (X : St) {r : Nat} (h : r ≠ 5) (h2 : r ≠ 10) (h3 : r ≠ 11) (k : Nat) : (mnt X).1 r k = sl2 X r k := by
  rw [mnt_x]
  unfold xem
  rw [if_neg h, if_neg h2, if_neg h3]
theorem mnt_5 (X : St) {k : Nat} (hk : k < X 0 0) : (mnt X).1 5 k = sl2 X 5 k - 1 := by
  rw [mnt_x, xem_5, if_pos hk]
theorem mnt_p (X : St) (k : Nat) : (mnt X).1 1 k = X 1 k := (mnt_r X (by decide) (by decide) (by decide) k).trans (sl2_g X 1 k (by omega))
theorem mnt_w (X : St) (k : Nat) : (mnt X).1 2 k = X 2 k := (mnt_r X (by decide) (by decide) (by decide) k).trans (sl2_g X 2 k (by omega))
theorem mnt_02 (X : St) : (mnt X).1 0 2 = X 0 2 := (mnt_r X (by decide) (by decide) (by decide) 2).trans (sl2_0 X).2.2
/-- the label k after a minute: what the law looks at -/
theorem mnt_lab {X : St} (h : Ok X) {k : Nat} (hk : k < X 0 0) :
    ((digs (X 3 k) ((mnt X).1 3 k) = 0 ∧ (mnt X).1 4 k = X 4 k ∧ (mnt X).1 5 k = X 5 k - 1) ∨
     (0 < digs (X 3 k) ((mnt X).1 3 k) ∧ 20 ≤ X 5 k ∧ X 8 k ≠ 0 ∧ (mnt X).1 3 k = X 1 (X 2 k) ∧ 9 < X 4 k + digs (X 3 k) ((mnt X).1 3 k) ∧ (mnt X).1 4 k = 0 ∧ (mnt X).1 5 k = X 5 k - 20 - 1) ∨
     (0 < digs (X 3 k) ((mnt X).1 3 k) ∧ 20 ≤ X 5 k ∧ X 8 k ≠ 0 ∧ (mnt X).1 3 k = X 1 (X 2 k) ∧ X 4 k + digs (X 3 k) ((mnt X).1 3 k) ≤ 9 ∧ (mnt X).1 4 k = X 4 k + digs (X 3 k) ((mnt X).1 3 k) ∧ (mnt X).1 5 k = X 5 k - 10 - 1)) ∧
    ((mnt X).1 8 k = X 8 k ∨ ((mnt X).1 8 k = 0 ∧ X 8 k ≠ 0 ∧ 20 ≤ X 5 k)) ∧
    (((mnt X).1 3 k = X 3 k ∧ (mnt X).1 8 k = X 8 k) ∨ ((s1 X = some k ∨ s2 X = some k) ∧ (mnt X).1 3 k = X 1 (X 2 k))) := by
  rw [mnt_r X (r := 3) (by decide) (by decide) (by decide), mnt_r X (r := 4) (by decide) (by decide) (by decide), mnt_r X (r := 8) (by decide) (by decide) (by decide), mnt_5 X hk]
  have hs := h.s k
  have hp := h.p (X 2 k)
  rcases sl2_lab X k with ⟨a, b, c, d⟩ | ⟨⟨h20, ho, a, b, c, d⟩, hh⟩
  · rw [a, b, c, d]
    exact ⟨Or.inl ⟨(digs_0 hs hs).mpr rfl, rfl, rfl⟩, Or.inl rfl, Or.inl ⟨rfl, rfl⟩⟩
  · rw [a, b, c]
    have h8 : sl2 X 8 k = X 8 k ∨ (sl2 X 8 k = 0 ∧ X 8 k ≠ 0 ∧ 20 ≤ X 5 k) := d.imp id (fun q => ⟨q, ho, h20⟩)
    unfold redr
    by_cases h0 : digs (X 3 k) (X 1 (X 2 k)) = 0
    · have e := (digs_0 hs hp).mp h0
      rw [if_pos h0]
      exact ⟨Or.inl ⟨(digs_0 hs hs).mpr rfl, rfl, rfl⟩, h8, Or.inr ⟨hh, e⟩⟩
    · rw [if_neg h0]
      by_cases h9 : 9 < X 4 k + digs (X 3 k) (X 1 (X 2 k))
      · rw [if_pos h9]
        rw [show (up (up (up X 5 k (X 5 k - 20)) 4 k 0) 3 k (X 1 (X 2 k))) 3 k = X 1 (X 2 k) from up_s _ _ _ _, show (up (up (up X 5 k (X 5 k - 20)) 4 k 0) 3 k (X 1 (X 2 k))) 4 k = 0 by rw [up_n _ (by omega), up_s], show (up (up (up X 5 k (X 5 k - 20)) 4 k 0) 3 k (X 1 (X 2 k))) 5 k = X 5 k - 20 by rw [up_n _ (by omega), up_n _ (by omega), up_s]]
        exact ⟨Or.inr (Or.inl ⟨by omega, h20, ho, rfl, h9, rfl, rfl⟩), h8, Or.inr ⟨hh, rfl⟩⟩
      · rw [if_neg h9]
        rw [show (up (up (up X 5 k (X 5 k - 10)) 4 k (X 4 k + digs (X 3 k) (X 1 (X 2 k)))) 3 k (X 1 (X 2 k))) 3 k = X 1 (X 2 k) from up_s _ _ _ _, show (up (up (up X 5 k (X 5 k - 10)) 4 k (X 4 k + digs (X 3 k) (X 1 (X 2 k)))) 3 k (X 1 (X 2 k))) 4 k = X 4 k + digs (X 3 k) (X 1 (X 2 k)) by rw [up_n _ (by omega), up_s], show (up (up (up X 5 k (X 5 k - 10)) 4 k (X 4 k + digs (X 3 k) (X 1 (X 2 k)))) 3 k (X 1 (X 2 k))) 5 k = X 5 k - 10 by rw [up_n _ (by omega), up_n _ (by omega), up_s]]
        exact ⟨Or.inr (Or.inr ⟨by omega, h20, ho, rfl, by omega, rfl, rfl⟩), h8, Or.inr ⟨hh, rfl⟩⟩
/-- how many of the first k labels are seen to act in a minute -/
def act (X : St) (k : Nat) : Nat := if 0 < digs (X 3 k) ((mnt X).1 3 k) ∨ (mnt X).1 8 k ≠ X 8 k then 1 else 0
def acs (X : St) : Nat → Nat
  | 0 => 0
  | k + 1 => acs X k + act X k
theorem bel_le (o : Option Nat) (k : Nat) : bel o k ≤ bel o (k + 1) := by
  cases o with
  | none => exact Nat.le_refl _
  | some j =>
    show (if j < k then 1 else 0) ≤ (if j < k + 1 then 1 else 0)
    split <;> split <;> omega
theorem bel_k (k : Nat) : bel (some k) (k + 1) = bel (some k) k + 1 := by
  show (if k < k + 1 then 1 else 0) = (if k < k then 1 else 0) + 1
  rw [if_pos (by omega), if_neg (by omega)]
theorem acs_le {X : St} (h : Ok X) : ∀ k, k ≤ X 0 0 → acs X k ≤ bel (s1 X) k + bel (s2 X) k
  | 0, _ => Nat.zero_le _
  | k + 1, hk => by
    have ih := acs_le h k (by omega)
    have b1 := bel_le (s1 X) k
    have b2 := bel_le (s2 X) k
    have hs := h.s k
    have e : acs X (k + 1) = acs X k + act X k := rfl
    have h1 : act X k ≤ 1 := by unfold act; split <;> omega
    rcases (mnt_lab h (show k < X 0 0 by omega)).2.2 with ⟨a, b⟩ | ⟨a | a, -⟩
    · have : act X k = 0 := by
        unfold act
        rw [if_neg]
        rw [a, b, (digs_0 hs hs).mpr rfl]
        omega
      omega
    · have := bel_k k
      rw [← a] at this
      omega
    · have := bel_k k
      rw [← a] at this
      omega
theorem cnt_dn {X : St} (h : Ok X) : ∀ k, k ≤ X 0 0 → cnt (mnt X).1 k ≤ cnt X k ∧ cnt X k ≤ cnt (mnt X).1 k + (bel (s1 X) k + bel (s2 X) k)
  | 0, _ => ⟨Nat.le_refl _, Nat.zero_le _⟩
  | k + 1, hk => by
    obtain ⟨i1, i2⟩ := cnt_dn h k (by omega)
    have b1 := bel_le (s1 X) k
    have b2 := bel_le (s2 X) k
    obtain ⟨-, h8, hh⟩ := mnt_lab h (show k < X 0 0 by omega)
    by_cases e : X 8 k = 0
    · have e' : (mnt X).1 8 k = 0 := by
        rcases h8 with q | q
        · exact q.trans e
        · exact q.1
      rw [cnt_z e, cnt_z e']
      omega
    · rw [cnt_o e]
      by_cases e' : (mnt X).1 8 k = 0
      · rw [cnt_z e']
        rcases hh with ⟨-, b⟩ | ⟨a | a, -⟩
        · exact absurd (b.symm.trans e') e
        · have := bel_k k
          rw [← a] at this
          omega
        · have := bel_k k
          rw [← a] at this
          omega
      · rw [cnt_o e']
        omega
theorem bel_cnt (X : St) : ∀ k, bel (s1 X) k + bel (s2 X) k ≤ cnt X k
  | 0 => by
    have h : ∀ o : Option Nat, bel o 0 = 0 := fun o => by
      cases o with
      | none => rfl
      | some j =>
        show (if j < 0 then 1 else 0) = 0
        exact if_neg (Nat.not_lt_zero j)
    rw [h, h]
    exact Nat.zero_le _
  | k + 1 => by
    have ih := bel_cnt X k
    have hb : ∀ o : Option Nat, o ≠ some k → bel o (k + 1) = bel o k := fun o ho => by
      cases o with
      | none => rfl
      | some j =>
        have hj : j ≠ k := fun q => ho (by rw [q])
        show (if j < k + 1 then 1 else 0) = (if j < k then 1 else 0)
        by_cases q : j < k
        · rw [if_pos q, if_pos (by omega)]
        · rw [if_neg q, if_neg (by omega)]
    have hc : cnt X k ≤ cnt X (k + 1) := by
      by_cases e : X 8 k = 0
      · rw [cnt_z e]; exact Nat.le_refl _
      · rw [cnt_o e]; omega
    by_cases a1 : s1 X = some k
    · have a2 : s2 X ≠ some k := fun q => s12 a1 q
      have := bel_k k
      rw [← a1] at this
      rw [hb _ a2, cnt_o (s1_o a1).2]
      omega
    · by_cases a2 : s2 X = some k
      · have := bel_k k
        rw [← a2] at this
        rw [hb _ a1, cnt_o (s2_o a2).2]
        omega
      · rw [hb _ a1, hb _ a2]
        omega
theorem bel_1 (o : Option Nat) (k : Nat) : bel o k ≤ 1 := by
  cases o with
  | none => exact Nat.zero_le _
  | some j =>
    show (if j < k then 1 else 0) ≤ 1
    split <;> omega
