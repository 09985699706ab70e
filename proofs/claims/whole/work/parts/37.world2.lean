/-! the world that the constructors make, in the order of wl -/
def S0 : St := fun r i => match r with
  | 5 => if i < 12 then 1000 else 0
  | 10 => if i < 720 then 10000 else 0
  | 11 => if i < 12 then 10000 else 0
  | _ => 0
theorem Iv_0 : Iv S0 0 := by
  refine ⟨?_, Nat.le_refl 0, fun i _ h => if_pos h⟩
  intro r i
  unfold S0
  split
  · split <;> exact okv_5 (by omega) (by omega)
  · split <;> exact okv_o (by omega) (by omega) (by omega) (by omega) (by omega) (by omega) (by omega) (by omega) (by omega)
  · split <;> exact okv_o (by omega) (by omega) (by omega) (by omega) (by omega) (by omega) (by omega) (by omega) (by omega)
  · exact okv_o (by omega) (by omega) (by omega) (by omega) (by omega) (by omega) (by omega) (by omega) (by omega)
/-- where the cell that wl has at place k stands in the list that the constructors make -/
def prm (k : Nat) : Nat := if k < 5 then k else if k = 5 then 65 else if k < 18 then 72 + k else if k = 18 then 90 else if k < 31 then 47 + k else k - 26
theorem prm_c (k : Nat) : (k < 5 ∧ prm k = k) ∨ (k = 5 ∧ prm k = 65) ∨ (6 ≤ k ∧ k < 18 ∧ prm k = 72 + k) ∨ (k = 18 ∧ prm k = 90) ∨ (19 ≤ k ∧ k < 31 ∧ prm k = 47 + k) ∨ (31 ≤ k ∧ prm k = k - 26) := by
  unfold prm
  split
  · omega
  · split
    · omega
    · split
      · omega
      · split
        · omega
        · split <;> omega
theorem prm_inj {i j : Nat} (hi : i < 91) (hj : j < 91) (h : prm i = prm j) : i = j := by
  rcases prm_c i with h1 | h1 | h1 | h1 | h1 | h1 <;> rcases prm_c j with h2 | h2 | h2 | h2 | h2 | h2 <;> omega
def adF (x q1 q2 h q en m0 z0 z1 z2 z3 z4 z5 z6 z7 z8 z9 z10 jq : Nat) (r lab : Nat → Nat) (c : Nat) : Nat :=
  if c < 19 then (match c with | 0 => x | 1 => q1 | 2 => q2 | 3 => h | 4 => q | 5 => en | 6 => m0 | 7 => z0 | 8 => z1 | 9 => z2 | 10 => z3 | 11 => z4 | 12 => z5 | 13 => z6 | 14 => z7 | 15 => z8 | 16 => z9 | 17 => z10 | _ => jq) else if c < 31 then lab (c - 19) else r (c - 31)
def LW (kc : Nat → ClassId) (x q1 q2 h q en m0 z0 z1 z2 z3 z4 z5 z6 z7 z8 z9 z10 jq : Nat) (r lab : Nat → Nat) : va_W := mdW kc (gxW kc x q1 q2 h q en r lab 12) m0 z0 z1 z2 z3 z4 z5 z6 z7 z8 z9 z10 (fun j => if j < 720 then -1 else nI 0) (fun j => if j < 12 then -1 else nI 0) ++ [(jq, .inl (kc 1, 1, .inr (.inl (fun _ => 0))))]
section XP
variable {kc : Nat → ClassId} {x q1 q2 h q en m0 z0 z1 z2 z3 z4 z5 z6 z7 z8 z9 z10 jq : Nat} {r lab : Nat → Nat}
theorem mdW_len {W0 : va_W} {f9 f10 : Nat → Int32} : (mdW kc W0 m0 z0 z1 z2 z3 z4 z5 z6 z7 z8 z9 z10 f9 f10).length = W0.length + 12 := by unfold mdW; rw [List.length_append]; rfl
theorem LW_lo {k : Nat} (hk : k < 66) : (LW kc x q1 q2 h q en m0 z0 z1 z2 z3 z4 z5 z6 z7 z8 z9 z10 jq r lab)[k]? = (gxB kc x q1 q2 h q en r lab 12)[k]? := by
  have e1 : (gxB kc x q1 q2 h q en r lab 12).length = 66 := memW_len
  unfold LW
  rw [List.getElem?_append_left (by rw [mdW_len, gxW_len]; omega)]
  unfold mdW
  rw [List.getElem?_append_left (by rw [gxW_len]; omega)]
  unfold gxW
  rw [List.getElem?_append_left (by rw [e1]; exact hk)]
theorem LW_lab {i : Nat} (hi : i < 12) : (LW kc x q1 q2 h q en m0 z0 z1 z2 z3 z4 z5 z6 z7 z8 z9 z10 jq r lab)[66 + i]? = some (lab i, .inr (0, iL)) := by
  have e1 : (gxB kc x q1 q2 h q en r lab 12).length = 66 := memW_len
  unfold LW
  rw [List.getElem?_append_left (by rw [mdW_len, gxW_len]; omega)]
  unfold mdW
  rw [List.getElem?_append_left (by rw [gxW_len]; omega)]
  unfold gxW
  rw [ap_getk i (by rw [e1])]
  unfold labW
  rw [List.getElem?_map, List.getElem?_range hi]
  rfl
theorem LW_md {t : Nat} (ht : t < 12) : (LW kc x q1 q2 h q en m0 z0 z1 z2 z3 z4 z5 z6 z7 z8 z9 z10 jq r lab)[78 + t]? = ((mdW kc [] m0 z0 z1 z2 z3 z4 z5 z6 z7 z8 z9 z10 (fun j => if j < 720 then -1 else nI 0) (fun j => if j < 12 then -1 else nI 0)))[t]? := by
  unfold LW
  rw [List.getElem?_append_left (by rw [mdW_len, gxW_len]; omega)]
  unfold mdW
  rw [ap_getk t (by rw [gxW_len]), List.nil_append]
theorem LW_j : (LW kc x q1 q2 h q en m0 z0 z1 z2 z3 z4 z5 z6 z7 z8 z9 z10 jq r lab)[90]? = some (jq, .inl (kc 1, 1, .inr (.inl (fun _ => 0)))) := by
  unfold LW
  rw [ap_getk 0 (by rw [mdW_len, gxW_len])]
  rfl
theorem fnI {f g : Nat → Int32} (h : ∀ j, f j = g j) : f = g := funext h
set_option maxRecDepth 20000 in
set_option maxHeartbeats 2000000 in
theorem LW_wl {k : Nat} (hk : k < 91) : (LW kc x q1 q2 h q en m0 z0 z1 z2 z3 z4 z5 z6 z7 z8 z9 z10 jq r lab)[prm k]? = some (adF x q1 q2 h q en m0 z0 z1 z2 z3 z4 z5 z6 z7 z8 z9 z10 jq r lab k, ct kc (adF x q1 q2 h q en m0 z0 z1 z2 z3 z4 z5 z6 z7 z8 z9 z10 jq r lab) S0 S0 0 0 0 k) := by
  rcases (show k = 0 ∨ k = 1 ∨ k = 2 ∨ k = 3 ∨ k = 4 ∨ k = 5 ∨ k = 6 ∨ k = 7 ∨ k = 8 ∨ k = 9 ∨ k = 10 ∨ k = 11 ∨ k = 12 ∨ k = 13 ∨ k = 14 ∨ k = 15 ∨ k = 16 ∨ k = 17 ∨ k = 18 ∨ (19 ≤ k ∧ k < 31) ∨ 31 ≤ k by omega) with rfl | rfl | rfl | rfl | rfl | rfl | rfl | rfl | rfl | rfl | rfl | rfl | rfl | rfl | rfl | rfl | rfl | rfl | rfl | hk2 | hk2
  · exact (LW_lo (k := 0) (by decide)).trans rfl
  · exact (LW_lo (k := 1) (by decide)).trans rfl
  · refine (LW_lo (k := 2) (by decide)).trans ?_
    show some (q2, (.inl (kc 2, 12, .inr (.inr (.inr (.inr (outL lab 12))))) : va_E)) = some (q2, .inl (kc 2, 12, .inr (.inr (.inr (.inr (fun j => if j < 12 then some (adF x q1 q2 h q en m0 z0 z1 z2 z3 z4 z5 z6 z7 z8 z9 z10 jq r lab (19 + j)) else none))))))
    rw [show (fun j => if j < 12 then some (adF x q1 q2 h q en m0 z0 z1 z2 z3 z4 z5 z6 z7 z8 z9 z10 jq r lab (19 + j)) else none) = outL lab 12 from funext fun j => by
      unfold outL
      by_cases hj : j < 12
      · rw [if_pos hj, if_pos hj]
        unfold adF
        rw [if_neg (by omega), if_pos (by omega), Nat.add_sub_cancel_left]
      · rw [if_neg hj, if_neg hj]]
  · exact (LW_lo (k := 3) (by decide)).trans rfl
  · refine (LW_lo (k := 4) (by decide)).trans ?_
    show some (q, (.inl (kc 3, 60, .inr (.inr (.inr (.inr (outR r))))) : va_E)) = some (q, .inl (kc 3, 60, .inr (.inr (.inr (.inr (fun j => if j < 60 then some (adF x q1 q2 h q en m0 z0 z1 z2 z3 z4 z5 z6 z7 z8 z9 z10 jq r lab (31 + j)) else none))))))
    rw [show (fun j => if j < 60 then some (adF x q1 q2 h q en m0 z0 z1 z2 z3 z4 z5 z6 z7 z8 z9 z10 jq r lab (31 + j)) else none) = outR r from funext fun j => by
      unfold outR
      by_cases hj : j < 60
      · rw [if_pos hj, if_pos hj]
        unfold adF
        rw [if_neg (by omega), if_neg (by omega), Nat.add_sub_cancel_left]
      · rw [if_neg hj, if_neg hj]]
  · refine ((LW_lo (k := 65) (by decide)).trans memW_e).trans ?_
    show some (en, (.inl (kc 0, 12, .inl (rowI 12)) : va_E)) = some (en, .inl (kc 0, 12, .inl (fun j => nI (if j < 12 then 10000 else 0))))
    rw [show (fun j => nI (if j < 12 then 10000 else 0)) = rowI 12 from fnI fun j => by unfold rowI; split <;> rfl]
  · exact (LW_md (t := 0) (by decide)).trans rfl
  · exact (LW_md (t := 1) (by decide)).trans rfl
  · exact (LW_md (t := 2) (by decide)).trans rfl
  · exact (LW_md (t := 3) (by decide)).trans rfl
  · exact (LW_md (t := 4) (by decide)).trans rfl
  · refine (LW_md (t := 5) (by decide)).trans ?_
    show some (z4, (.inl (kc 0, 12, .inl (fun _ => nI 0)) : va_E)) = some (z4, .inl (kc 0, 12, .inl (fun j => if j < 0 then nI (S0 5 j) else nI 0)))
    rw [show (fun j => if j < 0 then nI (S0 5 j) else nI 0) = (fun _ => nI 0) from fnI fun j => if_neg (Nat.not_lt_zero j)]
  · exact (LW_md (t := 6) (by decide)).trans rfl
  · exact (LW_md (t := 7) (by decide)).trans rfl
  · exact (LW_md (t := 8) (by decide)).trans rfl
  · exact (LW_md (t := 9) (by decide)).trans rfl
  · refine (LW_md (t := 10) (by decide)).trans ?_
    show some (z9, (.inl (kc 0, 720, .inl (fun j => if j < 720 then -1 else nI 0)) : va_E)) = some (z9, .inl (kc 0, 720, .inl (fun j => em (if j < 720 then 10000 else 0))))
    rw [show (fun j => em (if j < 720 then 10000 else 0)) = (fun j => if j < 720 then -1 else nI 0) from fnI fun j => by split <;> rfl]
  · refine (LW_md (t := 11) (by decide)).trans ?_
    show some (z10, (.inl (kc 0, 12, .inl (fun j => if j < 12 then -1 else nI 0)) : va_E)) = some (z10, .inl (kc 0, 12, .inl (fun j => em (if j < 12 then 10000 else 0))))
    rw [show (fun j => em (if j < 12 then 10000 else 0)) = (fun j => if j < 12 then -1 else nI 0) from fnI fun j => by split <;> rfl]
  · refine LW_j.trans ?_
    show some (jq, (.inl (kc 1, 1, .inr (.inl (fun _ => 0))) : va_E)) = some (jq, .inl (kc 1, 1, .inr (.inl (fun j => if j = 0 then 0 else 0))))
    rw [show (fun j : Nat => if j = 0 then (0 : Int64) else 0) = (fun _ => 0) from funext fun j => ite_self 0]
  · obtain ⟨i, rfl⟩ : ∃ i, k = 19 + i := ⟨k - 19, by omega⟩
    have hi : i < 12 := by omega
    rw [show prm (19 + i) = 66 + i from by rcases prm_c (19 + i) with h1 | h1 | h1 | h1 | h1 | h1 <;> omega, LW_lab hi, ct_lab hi]
    have e1 : adF x q1 q2 h q en m0 z0 z1 z2 z3 z4 z5 z6 z7 z8 z9 z10 jq r lab (19 + i) = lab i := by
      unfold adF
      rw [if_neg (by omega), if_pos (by omega), Nat.add_sub_cancel_left]
    have e2 : fL S0 i = iL := by
      show [_, _, _, Value.int (nI (if i < 12 then 1000 else 0)), _, _, _, _] = _
      rw [if_pos hi]
      rfl
    rw [e1, e2]
  · obtain ⟨i, rfl⟩ : ∃ i, k = 31 + i := ⟨k - 31, by omega⟩
    have hi : i < 60 := by omega
    rw [show prm (31 + i) = 5 + i from by rcases prm_c (31 + i) with h1 | h1 | h1 | h1 | h1 | h1 <;> omega, LW_lo (by omega), ct_row hi]
    have e1 : adF x q1 q2 h q en m0 z0 z1 z2 z3 z4 z5 z6 z7 z8 z9 z10 jq r lab (31 + i) = r i := by
      unfold adF
      rw [if_neg (by omega), if_neg (by omega), Nat.add_sub_cancel_left]
    have e2 : (fun j => nI (S0 10 (60 * j + i))) = rowI 12 := fnI fun j => by
      show nI (if 60 * j + i < 720 then 10000 else 0) = if j < 12 then nI 10000 else nI 0
      by_cases hj : j < 12
      · rw [if_pos hj, if_pos (by omega)]
      · rw [if_neg hj, if_neg (by omega)]
    rw [e1, e2]
    unfold gxB memW rows0
    exact (rm_get (i := i) hi rfl).trans (by show some (r i, _) = _; rw [if_pos hi])
end XP
section XO2
variable {p : Program} {l : Launch} {e : Env} {R : Room} {s : State} {m : MethodId} {args : Array Value} {below : List Frame} {meth : Method} {c : Code} {D : va_G} {A : Nat → Prop} {nL cells slots : Nat} {Q : State → Prop} {pc : Nat} {ls : List (Option Value)} {st : List Value}
theorem x_perm {ws ws2 : va_W} (f : Nat → Nat) (h : ∀ k q, ws2[k]? = some q → ws[f k]? = some q) (hinj : ∀ i j, i < ws2.length → j < ws2.length → f i = f j → i = j) (kk : x_X p l e R s m args below meth c D A nL cells slots Q ws2 pc ls st) : x_X p l e R s m args below meth c D A nL cells slots Q ws pc ls st := fun H locs la hP hD hS hl =>
  kk H locs la (fun k q hq => hP (f k) q (h k q hq)) ⟨fun i j a b hi hj e => hinj i j (List.getElem?_eq_some_iff.mp hi).1 (List.getElem?_eq_some_iff.mp hj).1 (hD.1 (f i) (f j) a b (h i a hi) (h j b hj) e), fun k q hq => hD.2 (f k) q (h k q hq)⟩ hS hl
theorem wl_len {kc : Nat → ClassId} {ad : Nat → Nat} {X B : St} {th : Nat} {ov : Int64} {hw : Nat} : (wl kc ad X B th ov hw).length = 91 := by unfold wl; rw [List.length_map, List.length_range]
end XO2
section XL
variable {p : Program} {l : Launch} {e : Env} {s : State} {m : MethodId} {below : List Frame} {meth : Method} {c : Code} {D : va_G} {A : Nat → Prop} {kc : Nat → ClassId} {b L : Nat} {xs : Nat → Int32}
set_option maxRecDepth 20000 in
set_option maxHeartbeats 2000000 in
theorem law_body (M : CallFix p m c cL_law 7 s #[Value.ref b] gw RL) (TB : x_TB D kc A s s.heap) (hAA : ∀ q : Nat, s.heap.size ≤ q → A q) (hX : va_X b L xs s s.heap) (hbl : b < s.heap.size) (hbA : ¬ A b) (hL : L ≤ 1536) (hAle : ∀ q : Nat, A q → s.heap.size ≤ q) (hr : meth.sig.returnType = ret) (hlocks : meth.locks = false) (hst0 : l.stackTraces = false) :
    x_X p l e room_1 s m #[Value.ref b] below meth c D A 7 0 0 (lw_Z below #[Value.ref b] s) [] 0 [some (.ref b), none, none, none, none, none, none] [] := by
  refine x_new2 M TB hAA kw_29 dL_law_0 ⟨by decide, by decide⟩ (fun x => ?_)
  refine x_dup M dL_law_3 rfl ?_
  refine x_callI (As := []) (rest := [.ref x]) M TB hAA mv_X2_init kw_31 dL_law_4 c_X_init rfl ⟨by decide, by decide⟩ ⟨by decide, by decide⟩ (Nat.le_of_ble_eq_true rfl) ?_
  rintro _ ⟨q1, q2, h, q, en, r, lab, rfl⟩
  refine x_astore1 M dL_law_7 ?_
  refine x_new3 M TB hAA kw_409 dL_law_8 ⟨by decide, by decide⟩ (fun m0 => ?_)
  refine x_dup M dL_law_11 rfl ?_
  refine x_callI (As := []) (rest := [.ref m0]) M TB hAA mv_X3_init kw_411 dL_law_12 c_R_init rfl ⟨by decide, by decide⟩ ⟨by decide, by decide⟩ (Nat.le_of_ble_eq_true rfl) ?_
  rintro _ ⟨z0, z1, z2, z3, z4, z5, z6, z7, z8, z9, z10, rfl⟩
  refine x_astore2 M dL_law_15 ?_
  refine x_iconst (v := nI 1) M dL_law_16 (by decide +kernel) ?_
  refine x_newJ M TB hAA (by decide) dL_law_17 ⟨by decide, by decide⟩ (fun jq => ?_)
  refine x_astore3 M dL_law_19 ?_
  refine x_iconst (v := nI 0) M dL_law_20 (by decide +kernel) ?_
  refine x_istore4 M dL_law_21 ?_
  refine x_ws (show _ = LW kc x q1 q2 h q en m0 z0 z1 z2 z3 z4 z5 z6 z7 z8 z9 z10 jq r lab from rfl) ?_
  refine x_perm (ws2 := wl kc (adF x q1 q2 h q en m0 z0 z1 z2 z3 z4 z5 z6 z7 z8 z9 z10 jq r lab) S0 S0 0 0 0) prm ?_ ?_ ?_
  · intro k y hy
    have hk : k < 91 := by rw [← wl_len]; exact (List.getElem?_eq_some_iff.mp hy).1
    rw [wl_at hk] at hy
    rw [LW_wl hk]
    exact hy
  · intro i j hi hj hq
    rw [wl_len] at hi hj
    exact prm_inj hi hj hq
  · exact x_widen (k := 200 + 0) (n := 3000 + 6 * 0) (by decide) (by decide) (law_loop M TB hAA hX hbl hbA hL hAle hr hlocks hst0 L 0 S0 0 0 none none Iv_0 (by omega) (Nat.zero_le _))
end XL
