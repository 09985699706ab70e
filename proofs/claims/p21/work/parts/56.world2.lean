/-! the world that the constructor and the law make, in the order of wl -/
def S0 : St := fun r i => match r with
  | 5 => if i < 12 then 1000 else 0
  | 10 => if i < 720 then 10000 else 0
  | 11 => if i < 12 then 10000 else 0
  | _ => 0
theorem Iv_0 : Iv S0 0 0 := by
  refine ⟨?_, Nat.le_refl 0, Nat.le_refl 0, fun i _ h => ⟨rfl, rfl, if_pos h, rfl⟩, fun i h => absurd h (Nat.not_lt_zero i), fun i h => absurd h (Nat.not_lt_zero i), rfl, rfl⟩
  intro r i
  unfold S0
  split
  · split <;> exact okv_5 (by omega) (by omega)
  · split <;> exact okv_o (by omega) (by omega) (by omega) (by omega) (by omega) (by omega) (by omega) (by omega) (by omega)
  · split <;> exact okv_o (by omega) (by omega) (by omega) (by omega) (by omega) (by omega) (by omega) (by omega) (by omega)
  · exact okv_o (by omega) (by omega) (by omega) (by omega) (by omega) (by omega) (by omega) (by omega) (by omega)
theorem cO_0 (j : Nat) : cO S0 j = 0 := by
  unfold cO
  split
  · rfl
  · split
    · rfl
    · split
      · rfl
      · split
        · rfl
        · split
          · show ew (if j - 15 < 12 then 10000 else 0) = 0
            rw [if_pos (by omega)]
            exact if_pos rfl
          · rfl
theorem hS_0 (k : Nat) : hS S0 k = 0 := by
  unfold hS
  split
  · rename_i h
    have e : ∀ w, w < 3 → ew (S0 10 (60 * w + k)) = 0 := fun w hw => by
      show ew (if 60 * w + k < 720 then 10000 else 0) = 0
      rw [if_pos (by omega)]
      exact if_pos rfl
    rw [psum_3 (g := fun _ => 0) e]
    decide +kernel
  · rfl
/-- where the cell that wl has at place k stands in the list that is made -/
def prm (k : Nat) : Nat := if k < 5 then k else if k = 5 then 65 else if k < 8 then 72 + k else if k < 20 then 58 + k else k - 15
theorem prm_c (k : Nat) : (k < 5 ∧ prm k = k) ∨ (k = 5 ∧ prm k = 65) ∨ (6 ≤ k ∧ k < 8 ∧ prm k = 72 + k) ∨ (8 ≤ k ∧ k < 20 ∧ prm k = 58 + k) ∨ (20 ≤ k ∧ prm k = k - 15) := by
  unfold prm
  split
  · omega
  · split
    · omega
    · split
      · omega
      · split <;> omega
theorem prm_inj {i j : Nat} (hi : i < 80) (hj : j < 80) (h : prm i = prm j) : i = j := by
  rcases prm_c i with h1 | h1 | h1 | h1 | h1 <;> rcases prm_c j with h2 | h2 | h2 | h2 | h2 <;> omega
def adF (x q1 q2 h q en cq jq : Nat) (r lab : Nat → Nat) (c : Nat) : Nat :=
  if c < 8 then (match c with | 0 => x | 1 => q1 | 2 => q2 | 3 => h | 4 => q | 5 => en | 6 => cq | _ => jq) else if c < 20 then lab (c - 8) else r (c - 20)
def LW (kc : Nat → ClassId) (x q1 q2 h q en cq jq : Nat) (r lab : Nat → Nat) : va_W := gxW kc x q1 q2 h q en r lab 12 ++ [(cq, .inl (kc 0, 18, .inl (fun _ => nI 0)))] ++ [(jq, .inl (kc 1, 60, .inr (.inl (fun _ => 0))))]
section XP
variable {kc : Nat → ClassId} {x q1 q2 h q en cq jq : Nat} {r lab : Nat → Nat}
theorem LW_lo {k : Nat} (hk : k < 66) : (LW kc x q1 q2 h q en cq jq r lab)[k]? = (gxB kc x q1 q2 h q en r lab 12)[k]? := by
  have e1 : (gxB kc x q1 q2 h q en r lab 12).length = 66 := memW_len
  unfold LW
  rw [List.append_assoc, List.getElem?_append_left (by rw [gxW_len]; omega)]
  unfold gxW
  rw [List.getElem?_append_left (by rw [e1]; exact hk)]
theorem LW_lab {i : Nat} (hi : i < 12) : (LW kc x q1 q2 h q en cq jq r lab)[66 + i]? = some (lab i, .inr (0, iL)) := by
  have e1 : (gxB kc x q1 q2 h q en r lab 12).length = 66 := memW_len
  unfold LW
  rw [List.append_assoc, List.getElem?_append_left (by rw [gxW_len]; omega)]
  unfold gxW
  rw [ap_getk i (by rw [e1])]
  unfold labW
  rw [List.getElem?_map, List.getElem?_range hi]
  rfl
theorem LW_c : (LW kc x q1 q2 h q en cq jq r lab)[78]? = some (cq, .inl (kc 0, 18, .inl (fun _ => nI 0))) := by
  unfold LW
  rw [List.append_assoc, ap_getk 0 (by rw [gxW_len])]
  rfl
theorem LW_j : (LW kc x q1 q2 h q en cq jq r lab)[79]? = some (jq, .inl (kc 1, 60, .inr (.inl (fun _ => 0)))) := by
  unfold LW
  rw [List.append_assoc, ap_getk 1 (by rw [gxW_len])]
  rfl
theorem fnI {f g : Nat → Int32} (h : ∀ j, f j = g j) : f = g := funext h
set_option maxRecDepth 20000 in
set_option maxHeartbeats 2000000 in
theorem LW_wl {k : Nat} (hk : k < 80) : (LW kc x q1 q2 h q en cq jq r lab)[prm k]? = some (adF x q1 q2 h q en cq jq r lab k, ct kc (adF x q1 q2 h q en cq jq r lab) S0 (cS S0) (hS S0) k) := by
  rcases (show k = 0 ∨ k = 1 ∨ k = 2 ∨ k = 3 ∨ k = 4 ∨ k = 5 ∨ k = 6 ∨ k = 7 ∨ (8 ≤ k ∧ k < 20) ∨ 20 ≤ k by omega) with rfl | rfl | rfl | rfl | rfl | rfl | rfl | rfl | hk2 | hk2
  · exact (LW_lo (k := 0) (by decide)).trans rfl
  · exact (LW_lo (k := 1) (by decide)).trans rfl
  · refine (LW_lo (k := 2) (by decide)).trans ?_
    show some (q2, (.inl (kc 2, 12, .inr (.inr (.inr (.inr (outL lab 12))))) : va_E)) = some (q2, .inl (kc 2, 12, .inr (.inr (.inr (.inr (fun j => if j < 12 then some (adF x q1 q2 h q en cq jq r lab (8 + j)) else none))))))
    rw [show (fun j => if j < 12 then some (adF x q1 q2 h q en cq jq r lab (8 + j)) else none) = outL lab 12 from funext fun j => by
      unfold outL
      by_cases hj : j < 12
      · rw [if_pos hj, if_pos hj]
        unfold adF
        rw [if_neg (by omega), if_pos (by omega), Nat.add_sub_cancel_left]
      · rw [if_neg hj, if_neg hj]]
  · exact (LW_lo (k := 3) (by decide)).trans rfl
  · refine (LW_lo (k := 4) (by decide)).trans ?_
    show some (q, (.inl (kc 3, 60, .inr (.inr (.inr (.inr (outR r))))) : va_E)) = some (q, .inl (kc 3, 60, .inr (.inr (.inr (.inr (fun j => if j < 60 then some (adF x q1 q2 h q en cq jq r lab (20 + j)) else none))))))
    rw [show (fun j => if j < 60 then some (adF x q1 q2 h q en cq jq r lab (20 + j)) else none) = outR r from funext fun j => by
      unfold outR
      by_cases hj : j < 60
      · rw [if_pos hj, if_pos hj]
        unfold adF
        rw [if_neg (by omega), if_neg (by omega), Nat.add_sub_cancel_left]
      · rw [if_neg hj, if_neg hj]]
  · refine ((LW_lo (k := 65) (by decide)).trans memW_e).trans ?_
    show some (en, (.inl (kc 0, 12, .inl (rowI 12)) : va_E)) = some (en, .inl (kc 0, 12, .inl (fun j => nI (if j < 12 then 10000 else 0))))
    rw [show (fun j => nI (if j < 12 then 10000 else 0)) = rowI 12 from fnI fun j => by unfold rowI; split <;> rfl]
  · refine LW_c.trans ?_
    show some (cq, (.inl (kc 0, 18, .inl (fun _ => nI 0)) : va_E)) = some (cq, .inl (kc 0, 18, .inl (fun j => nI (cO S0 j))))
    rw [show (fun j => nI (cO S0 j)) = (fun _ => nI 0) from fnI fun j => by rw [cO_0]]
  · refine LW_j.trans ?_
    show some (jq, (.inl (kc 1, 60, .inr (.inl (fun _ => 0))) : va_E)) = some (jq, .inl (kc 1, 60, .inr (.inl (hS S0))))
    rw [show hS S0 = (fun _ => 0) from funext hS_0]
  · obtain ⟨i, rfl⟩ : ∃ i, k = 8 + i := ⟨k - 8, by omega⟩
    have hi : i < 12 := by omega
    rw [show prm (8 + i) = 66 + i from by rcases prm_c (8 + i) with h1 | h1 | h1 | h1 | h1 <;> omega, LW_lab hi, ct_lab hi]
    have e1 : adF x q1 q2 h q en cq jq r lab (8 + i) = lab i := by
      unfold adF
      rw [if_neg (by omega), if_pos (by omega), Nat.add_sub_cancel_left]
    have e2 : fL S0 i = iL := by
      show [_, _, _, Value.int (nI (if i < 12 then 1000 else 0)), _, _, _, _] = _
      rw [if_pos hi]
      rfl
    rw [e1, e2]
  · obtain ⟨i, rfl⟩ : ∃ i, k = 20 + i := ⟨k - 20, by omega⟩
    have hi : i < 60 := by omega
    rw [show prm (20 + i) = 5 + i from by rcases prm_c (20 + i) with h1 | h1 | h1 | h1 | h1 <;> omega, LW_lo (by omega), ct_row hi]
    have e1 : adF x q1 q2 h q en cq jq r lab (20 + i) = r i := by
      unfold adF
      rw [if_neg (by omega), if_neg (by omega), Nat.add_sub_cancel_left]
    have e2 : (fun j => nI (S0 10 (60 * j + i))) = rowI 12 := fnI fun j => by
      show nI (if 60 * j + i < 720 then 10000 else 0) = if j < 12 then nI 10000 else nI 0
      by_cases hj : j < 12
      · rw [if_pos hj, if_pos (by omega)]
      · rw [if_neg hj, if_neg (by omega)]
    rw [e1, e2]
    unfold gxB memW rows0
    exact (rm_get (i := i) hi rfl).trans (by show some (r i, _) = _; rw [if_pos hi])
end XP
section XO2
variable {p : Program} {l : Launch} {e : Env} {R : Room} {s : State} {m : MethodId} {args : Array Value} {below : List Frame} {meth : Method} {c : Code} {D : va_G} {A : Nat → Prop} {nL cells slots : Nat} {Q : State → Prop} {pc : Nat} {ls : List (Option Value)} {st : List Value}
theorem x_perm {ws ws2 : va_W} (f : Nat → Nat) (h : ∀ k q, ws2[k]? = some q → ws[f k]? = some q) (hinj : ∀ i j, i < ws2.length → j < ws2.length → f i = f j → i = j) (kk : x_X p l e R s m args below meth c D A nL cells slots Q ws2 pc ls st) : x_X p l e R s m args below meth c D A nL cells slots Q ws pc ls st := fun H locs la hP hD hS hl =>
  kk H locs la (fun k q hq => hP (f k) q (h k q hq)) ⟨fun i j a b hi hj e => hinj i j (List.getElem?_eq_some_iff.mp hi).1 (List.getElem?_eq_some_iff.mp hj).1 (hD.1 (f i) (f j) a b (h i a hi) (h j b hj) e), fun k q hq => hD.2 (f k) q (h k q hq)⟩ hS hl
theorem wl_len {kc : Nat → ClassId} {ad : Nat → Nat} {X B : St} {hf : Nat → Int64} : (wl kc ad X B hf []).length = 80 := by unfold wl; rw [List.append_nil, List.length_map, List.length_range]
end XO2
