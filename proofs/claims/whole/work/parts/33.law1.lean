/-! what a step of the law keeps: Iv; numbers of arguments; the script's rows -/
/-- after k places of the script: the state is in its bounds, no more than 12 orders a step, labels yet to hang have full batteries -/
def Iv (S : St) (k : Nat) : Prop := Ok S ∧ S 0 2 ≤ 4 * k ∧ ∀ i, S 0 0 ≤ i → i < 12 → S 5 i = 1000
theorem Iv_3 {S : St} {k : Nat} (h : Iv S k) : Iv S (k + 3) := ⟨h.1, by have := h.2.1; omega, h.2.2⟩
/-- T as S, but for what concerns the labels that hang -/
def Un (S T : St) : Prop := T 0 0 = S 0 0 ∧ T 0 2 = S 0 2 ∧ ∀ i, S 0 0 ≤ i → T 5 i = S 5 i
theorem Un_rf (S : St) : Un S S := ⟨rfl, rfl, fun _ _ => rfl⟩
theorem Un_tr {S T U : St} (h : Un S T) (k : Un T U) : Un S U := ⟨k.1.trans h.1, k.2.1.trans h.2.1, fun i hi => (k.2.2 i (by rw [h.1]; exact hi)).trans (h.2.2 i hi)⟩
theorem Un_up {S : St} {r i v : Nat} (hr : r ≠ 0) (hi : r = 5 → i < S 0 0) : Un S (up S r i v) :=
  ⟨up_r _ (Ne.symm hr), up_r _ (Ne.symm hr), fun j hj => up_n _ (fun q => by have := hi q.1.symm; have := q.2; omega)⟩
theorem Un_t (S : St) : Un S (tick S) := ⟨rfl, rfl, fun _ _ => rfl⟩
theorem Un_redr {S : St} {i : Nat} (hi : i < S 0 0) : Un S (redr S i) := by
  unfold redr
  split
  · exact Un_rf S
  · split
    · exact Un_tr (Un_tr (Un_up (by decide) (fun _ => hi)) (Un_up (by decide) (fun h => absurd h (by decide)))) (Un_up (by decide) (fun h => absurd h (by decide)))
    · exact Un_tr (Un_tr (Un_up (by decide) (fun _ => hi)) (Un_up (by decide) (fun h => absurd h (by decide)))) (Un_up (by decide) (fun h => absurd h (by decide)))
theorem Un_answ {S : St} {i : Nat} : Un S (answ S i) := by
  unfold answ
  split
  · exact Un_up (by decide) (fun h => absurd h (by decide))
  · exact Un_up (by decide) (fun h => absurd h (by decide))
theorem Un_sen {S : St} {i : Nat} (hi : i < S 0 0) : Un S (sen S i) := by
  have h0 : Un S (up S 9 i (S 0 1 + 5)) := Un_up (by decide) (fun h => absurd h (by decide))
  unfold sen sen1
  split
  · exact Un_tr h0 (Un_up (by decide) (fun h => absurd h (by decide)))
  · split
    · exact Un_tr h0 (Un_tr (Un_redr (by rw [h0.1]; exact hi)) Un_answ)
    · exact h0
theorem Un_slot (S : St) : Un S (slot S).1 := by
  cases h : nxt S (S 0 0) with
  | none => rw [slot_n h]; exact Un_rf S
  | some j => rw [slot_s h]; exact Un_sen (nxt_of h).1
theorem Un_xem {S : St} {k : Nat} (hk : k ≤ S 0 0) : Un S (xem S k) := ⟨rfl, rfl, fun i hi => by rw [xem_5, if_neg (by omega)]⟩
theorem Un_mnt (S : St) : Un S (mnt S).1 := by
  have h1 : Un S (slot (slot (tick S)).1).1 := Un_tr (Un_tr (Un_t S) (Un_slot _)) (Un_slot _)
  exact Un_tr h1 (Un_xem (by rw [h1.1]; exact Nat.le_refl _))
theorem Un_mnts (S : St) : ∀ k, Un S (mnts S k).1
  | 0 => Un_rf S
  | k + 1 => Un_tr (Un_mnts S k) (Un_mnt _)
theorem Iv_un {S T : St} {k : Nat} (h : Iv S k) (hO : Ok T) (hU : Un S T) : Iv T (k + 3) := ⟨hO, by have := h.2.1; have := hU.2.1; omega, fun i hi h12 => (hU.2.2 i (by rw [← hU.1]; exact hi)).trans (h.2.2 i (by rw [← hU.1]; exact hi) h12)⟩
theorem Iv_mnts {S : St} {k n : Nat} (h : Iv S k) (hn : S 0 1 + n ≤ 10000) : Iv (mnts S n).1 (k + 3) := Iv_un h (mnts_ok h.1 n hn).1 (Un_mnts S n)
theorem Iv_up {S : St} {k r i v : Nat} (h : Iv S k) (hr : r = 5 ∨ r = 6 ∨ r = 7) (hi : i < S 0 0) (hv : v < 2 ^ 30) : Iv (up S r i v) (k + 3) := Iv_un h (Ok_up h.1 (okv_5 hv (by omega))) (Un_up (by omega) (fun _ => hi))
theorem Ok_gets {S : St} {i : Nat} (h : Ok S) (hm : S 0 2 + 1 < 2 ^ 30) : Ok (gets S i) := by
  have := h.bd 0 1
  unfold gets
  exact Ok_up (Ok_up (Ok_up h (okv_o hm (by omega) (by omega) (by omega) (by omega) (by omega) (by omega) (by omega) (by omega))) (okv_5 hm (by omega))) (okv_5 this (by omega))
theorem Ok_spl {S : St} (h : Ok S) (hm : S 0 2 + 12 < 2 ^ 30) (w : Nat) : ∀ k, k ≤ 12 → Ok (spl S w k).1
  | 0, _ => h
  | k + 1, hk => by
    have h1 := Ok_spl h hm w k (by omega)
    have h2 := (spl_ok h.bd hm w k (by omega)).2.2.2.1
    by_cases e : S 2 k = w
    · rw [spl_p e]; exact Ok_gets h1 (by omega)
    · rw [spl_m e]; exact h1
theorem spl_5 (S : St) (w i : Nat) : ∀ k, (spl S w k).1 5 i = S 5 i
  | 0 => rfl
  | k + 1 => by
    by_cases e : S 2 k = w
    · rw [spl_p e]; exact spl_5 S w i k
    · rw [spl_m e]; exact spl_5 S w i k
theorem Iv_spl {S : St} {k j v : Nat} (h : Iv S k) (hk : k ≤ 1536) (hv : v ≤ 9999) : Iv (spl (up S 1 j v) j (S 0 0)).1 (k + 3) ∧ (spl (up S 1 j v) j (S 0 0)).1 0 0 = S 0 0 := by
  have hm := h.2.1
  have hn := h.1.n
  have h0 : Ok (up S 1 j v) := Ok_up h.1 (okv_o (by omega) (by omega) (by omega) (by omega) (by omega) (by omega) (by omega) (by omega) (by omega))
  have e2 : up S 1 j v 0 2 = S 0 2 := rfl
  obtain ⟨a1, a2, a3, a4, -⟩ := spl_ok h0.bd (by omega) j (S 0 0) hn
  have e0 : (spl (up S 1 j v) j (S 0 0)).1 0 0 = S 0 0 := a2
  refine ⟨⟨Ok_spl h0 (by omega) j _ hn, by omega, fun i hi h12 => ?_⟩, e0⟩
  rw [spl_5]
  exact h.2.2 i (by rw [← e0]; exact hi) h12
theorem Iv_hng {S : St} {k w : Nat} (h : Iv S k) (hn : S 0 0 < 12) (hw : w < 12) : Iv (hng S w) (k + 3) := by
  have hp := h.1.p w
  refine ⟨?_, ?_, fun i hi h12 => ?_⟩
  · unfold hng
    exact Ok_up (Ok_up (Ok_up h.1 (okv_o (by omega) (by omega) (by omega) (by omega) (by omega) (by omega) (by omega) (by omega) (by omega))) (okv_o (by omega) (by omega) (by omega) (by omega) (by omega) (by omega) (by omega) (by omega) (by omega))) (okv_o (by omega) (by omega) (by omega) (by omega) (by omega) (by omega) (by omega) (by omega) (by omega))
  · have := h.2.1
    show S 0 2 ≤ _
    omega
  · have hi : S 0 0 + 1 ≤ i := hi
    exact h.2.2 i (by omega) h12
theorem Iv_car {S : St} {k j w : Nat} (h : Iv S k) (hk : k ≤ 1536) (hw : w < 12) : Iv (car S j w) (k + 3) ∧ car S j w 0 0 = S 0 0 := by
  have hm := h.2.1
  have h0 : Ok (up (up S 2 j w) 8 j 0) := Ok_up (Ok_up h.1 (okv_o (by omega) (by omega) (by omega) (by omega) (by omega) (by omega) (by omega) (by omega) (by omega))) (okv_5 (by omega) (by omega))
  have e2 : up (up S 2 j w) 8 j 0 0 2 = S 0 2 := rfl
  unfold car
  split
  · exact ⟨⟨h0, by omega, h.2.2⟩, rfl⟩
  · refine ⟨⟨Ok_gets h0 (by omega), ?_, h.2.2⟩, rfl⟩
    show S 0 2 + 1 ≤ _
    omega
theorem within_or (lo hi : Nat) (hlh : lo ≤ hi) (hh : hi < 2 ^ 30) (x : Int32) : (∃ v : Nat, lo ≤ v ∧ v ≤ hi ∧ x = nI v) ∨ ¬ (¬ x < nI lo ∧ x ≤ nI hi) := by
  rcases bad_or (hi + 1) (by omega) x with ⟨j, hj, e⟩ | h
  · by_cases hl : lo ≤ j
    · exact Or.inl ⟨j, hl, by omega, e⟩
    · refine Or.inr (fun q => q.1 ?_)
      rw [e]
      exact nI_lt (by omega) (by omega)
  · refine Or.inr (fun q => h ⟨fun q0 => q.1 (Int32.lt_of_lt_of_le q0 (by rw [← nI_0]; exact (nI_leI (by decide) (by omega)).mpr (Nat.zero_le _))), Int32.lt_of_le_of_lt q.2 (nI_lt (by omega) (by omega))⟩)
theorem lcmp_0 (x : Int64) : lg_cmp x x = 0 := by
  unfold lg_cmp
  simp
section XS
variable {p : Program} {l : Launch} {e : Env} {R : Room} {s : State} {m : MethodId} {args : Array Value} {below : List Frame} {meth : Method} {c : Code} {D : va_G} {A : Nat → Prop} {nL cells slots : Nat} {Q : State → Prop}
variable {cc : ByteArray} {own : String} {ws : va_W} {pc : Nat} {ls : List (Option Value)} {st : List Value}
theorem x_sld (M : CallFix p m c cc nL s args gw own) {b L j : Nat} {xs : Nat → Int32} {x : Int32} (hX : va_X b L xs s s.heap) (hbl : b < s.heap.size) (hbA : ¬ A b) (he : xs j = x) (hj : j < L) (hL : L ≤ 1536) (hdg : decode cc pc = .ok (.iaload, 1))
    (kk : x_X p l e R s m args below meth c D A nL cells slots Q ws (pc + 1) ls (.int x :: st)) : x_X p l e R s m args below meth c D A nL cells slots Q ws pc ls (.int (nI j) :: .ref b :: st) := fun H locs la hP hD hS hl =>
  va_sld M.1 M.2.1 hX hbl hbA hS (vp_in_nI hj (by omega)) hdg (by rw [nI_clamp (by omega), he]; exact kk H locs la hP hD hS hl)
theorem x_slen (M : CallFix p m c cc nL s args gw own) {b L : Nat} {xs : Nat → Int32} (hX : va_X b L xs s s.heap) (hbl : b < s.heap.size) (hbA : ¬ A b) (hdg : decode cc pc = .ok (.arraylength, 1))
    (kk : x_X p l e R s m args below meth c D A nL cells slots Q ws (pc + 1) ls (.int (nI L) :: st)) : x_X p l e R s m args below meth c D A nL cells slots Q ws pc ls (.ref b :: st) := fun H locs la hP hD hS hl =>
  va_slen M.1 M.2.1 hX hbl hbA hS hdg (kk H locs la hP hD hS hl)
theorem x_tabOut (M : CallFix p m c cc nL s args gw own) {dflt lo hi : Int} {offs : Array Int} {len : Nat} {x : Int32} {tgt : Nat} (hdg : decode cc pc = .ok (.tableswitch dflt lo hi offs, len)) (h : x.toInt < lo ∨ hi < x.toInt) (ht : (pc : Int) + dflt = (tgt : Int))
    (kk : x_X p l e R s m args below meth c D A nL cells slots Q ws tgt ls st) : x_X p l e R s m args below meth c D A nL cells slots Q ws pc ls (.int x :: st) := fun H locs la hP hD hS hl =>
  lv_tableOut M.1 M.2.1 hdg h ht (kk H locs la hP hD hS hl)
theorem x_tabIn (M : CallFix p m c cc nL s args gw own) {dflt lo hi : Int} {offs : Array Int} {len : Nat} {x : Int32} {off : Int} {tgt : Nat} (hdg : decode cc pc = .ok (.tableswitch dflt lo hi offs, len)) (h1 : ¬ x.toInt < lo) (h2 : ¬ hi < x.toInt) (ho : offs[(x.toInt - lo).toNat]? = some off) (ht : (pc : Int) + off = (tgt : Int))
    (kk : x_X p l e R s m args below meth c D A nL cells slots Q ws tgt ls st) : x_X p l e R s m args below meth c D A nL cells slots Q ws pc ls (.int x :: st) := fun H locs la hP hD hS hl =>
  lv_tableIn M.1 M.2.1 hdg h1 h2 ho ht (kk H locs la hP hD hS hl)
end XS
