/-! longs that hold three numbers of 14 bits (the first rows are the kit's own, pasted from its BITS) -/
theorem wb_tb (n : Nat) : (lN n).toBitVec = BitVec.ofNat 64 n := rfl
theorem wb_inj {a b : Int64} (h : a.toBitVec = b.toBitVec) : a = b := Int64.toBitVec_inj.mp h
theorem wb_c : ∀ k, k < 64 → ((nI k).toInt64 &&& 63) = lN k := by decide +kernel
theorem wb_sm : ∀ k, k < 64 → (BitVec.ofNat 64 k).smod 64 = BitVec.ofNat 64 k := by decide +kernel
theorem wb_lt2 {a b : Nat} (h : a < b) : 2 ^ a < 2 ^ b := Nat.pow_lt_pow_right (by decide) h
theorem wb_shl (n : Nat) {k : Nat} (hk : k < 64) : lN n <<< ((nI k).toInt64 &&& 63) = lN (n * 2 ^ k) := by
  rw [wb_c k hk]
  apply wb_inj
  rw [Int64.toBitVec_shiftLeft, wb_tb, wb_tb, wb_tb, wb_sm k hk]
  apply BitVec.eq_of_toNat_eq
  rw [BitVec.shiftLeft_eq', BitVec.toNat_shiftLeft, BitVec.toNat_ofNat, BitVec.toNat_ofNat, BitVec.toNat_ofNat, Nat.mod_eq_of_lt (show k < 2 ^ 64 by omega), Nat.shiftLeft_eq, Nat.mul_mod, Nat.mod_mod, ← Nat.mul_mod]
theorem wb_and {a b : Nat} (ha : a < 2 ^ 64) (hb : b < 2 ^ 64) : lN a &&& lN b = lN (a &&& b) := by
  apply wb_inj
  rw [Int64.toBitVec_and, wb_tb, wb_tb, wb_tb]
  apply BitVec.eq_of_toNat_eq
  rw [BitVec.toNat_and, BitVec.toNat_ofNat, BitVec.toNat_ofNat, BitVec.toNat_ofNat, Nat.mod_eq_of_lt ha, Nat.mod_eq_of_lt hb, Nat.mod_eq_of_lt (Nat.and_lt_two_pow _ hb)]
theorem wb_mask {n k : Nat} (hn : n < 2 ^ 64) (hk : k < 64) : lN n &&& lN (2 ^ k - 1) = lN (n % 2 ^ k) := by
  rw [wb_and hn (by have := wb_lt2 hk; omega), Nat.and_two_pow_sub_one_eq_mod]
theorem u_tn {n : Nat} (h : n < 2 ^ 64) : (UInt64.ofNat n).toNat = n := Nat.mod_eq_of_lt h
theorem g_or {k p a b : Nat} (hp : 2 ^ k = p) (ha : a < p) (h : b * p + a < 2 ^ 64) : lN (b * p) ||| lN a = lN (b * p + a) := by
  subst hp
  have h1 : b * 2 ^ k ||| a = b * 2 ^ k + a := by rw [← Nat.shiftLeft_eq, Nat.shiftLeft_add_eq_or_of_lt ha]
  have h3 : UInt64.ofNat (b * 2 ^ k) ||| UInt64.ofNat a = UInt64.ofNat (b * 2 ^ k + a) := UInt64.toNat_inj.mp (by rw [UInt64.toNat_or, u_tn (by omega), u_tn (by omega), u_tn h, h1])
  have h2 := congrArg UInt64.toInt64 h3
  exact h2
theorem g_or' {k p a b : Nat} (hp : 2 ^ k = p) (ha : a < p) (h : a + b * p < 2 ^ 64) : lN a ||| lN (b * p) = lN (a + b * p) := by
  rw [Int64.or_comm, g_or hp ha (by omega), Nat.add_comm]
theorem pf_lI {a : Nat} (h : a < 2 ^ 63) : (lN a).toInt = (a : Int) := lg_ofNat_toInt h
theorem pf_shr {a d : Nat} {D : Int64} (hD : (D.toBitVec.smod 64).toNat = d) (h : a < 2 ^ 62) : lN a >>> D = lN (a / 2 ^ d) := by
  have hd : a / 2 ^ d ≤ a := Nat.div_le_self _ _
  apply Int64.toInt_inj.mp
  have e : (lN a >>> D).toInt = (lN a).toInt >>> d := by
    rw [← hD]
    exact BitVec.toInt_sshiftRight ..
  rw [e, Int.shiftRight_eq_div_pow, pf_lI (by omega), pf_lI (by omega)]
  rfl
/-- a remembered price as the law packs it: 0 for none -/
def ew (v : Nat) : Nat := if v = 10000 then 0 else v + 1
theorem ew_le {v : Nat} (h : v ≤ 10000) : ew v ≤ 10000 := by
  unfold ew
  split <;> omega
/-- the first k of three numbers, packed -/
def psum (f : Nat → Nat) : Nat → Nat
  | 0 => 0
  | k + 1 => psum f k + f k * 2 ^ (14 * k)
theorem psum_lt {f : Nat → Nat} (h : ∀ w, f w ≤ 10000) : ∀ k, k ≤ 3 → psum f k < 2 ^ (14 * k)
  | 0, _ => by show (0 : Nat) < 2 ^ (14 * 0); decide
  | k + 1, hk => by
    have h1 := psum_lt h k (by omega)
    have h2 := h k
    unfold psum
    rcases (show k = 0 ∨ k = 1 ∨ k = 2 by omega) with rfl | rfl | rfl
    · simp at h1 ⊢; omega
    · simp at h1 ⊢; omega
    · simp at h1 ⊢; omega
theorem pk_push {f : Nat → Nat} (h : ∀ w, f w ≤ 10000) {k : Nat} (hk : k < 3) : lN (psum f k) ||| (lN (f k) <<< ((nI (14 * k)).toInt64 &&& 63)) = lN (psum f (k + 1)) := by
  have h1 := psum_lt h k (by omega)
  have h3 := psum_lt h (k + 1) (by omega)
  have h4 : 2 ^ (14 * (k + 1)) ≤ 2 ^ 63 := Nat.pow_le_pow_right (by decide) (by omega)
  have e : psum f (k + 1) = psum f k + f k * 2 ^ (14 * k) := rfl
  rw [wb_shl _ (by omega), g_or' rfl h1 (by rw [← e]; exact Nat.lt_of_lt_of_le h3 (Nat.le_trans h4 (by decide)))]
  rfl
theorem pk_dig {f : Nat → Nat} (h : ∀ w, f w ≤ 10000) {w : Nat} (hw : w < 3) : psum f 3 / 2 ^ (14 * w) % 2 ^ 14 = f w := by
  have h0 := h 0
  have h1 := h 1
  have h2 := h 2
  have e : psum f 3 = f 0 + f 1 * 16384 + f 2 * 268435456 := by
    show 0 + f 0 * 2 ^ (14 * 0) + f 1 * 2 ^ (14 * 1) + f 2 * 2 ^ (14 * 2) = _
    simp
  rw [e]
  rcases (show w = 0 ∨ w = 1 ∨ w = 2 by omega) with rfl | rfl | rfl
  · simp; omega
  · simp; omega
  · simp; omega
theorem pk_shr3 {n w : Nat} (hw : w < 3) (hn : n < 2 ^ 62) : lN n >>> ((nI (14 * w)).toInt64 &&& 63) = lN (n / 2 ^ (14 * w)) := by
  refine pf_shr ?_ hn
  rcases (show w = 0 ∨ w = 1 ∨ w = 2 by omega) with rfl | rfl | rfl <;> decide +kernel
theorem pk_pull {f : Nat → Nat} (h : ∀ w, f w ≤ 10000) {w : Nat} (hw : w < 3) : (lN (psum f 3 / 2 ^ (14 * w)) &&& (16383 : Int64)).toInt32 = nI (f w) := by
  have h3 := psum_lt h 3 (by omega)
  have h4 : psum f 3 / 2 ^ (14 * w) < 2 ^ 64 := Nat.lt_of_le_of_lt (Nat.div_le_self _ _) (Nat.lt_trans h3 (by decide))
  have e : (16383 : Int64) = lN (2 ^ 14 - 1) := by decide +kernel
  rw [e, wb_mask h4 (by decide), lN_i, pk_dig h hw]
theorem em_ew {v : Nat} (h : v ≤ 10000) : nI (ew v) - nI 1 = em v := by
  unfold ew em
  by_cases e : v = 10000
  · rw [if_pos e, if_pos e]; decide +kernel
  · rw [if_neg e, if_neg e, pk_sub (by omega), Nat.add_sub_cancel]
theorem ew_em {v : Nat} : em v + nI 1 = nI (ew v) := by
  unfold ew em
  by_cases e : v = 10000
  · rw [if_pos e, if_pos e]; decide +kernel
  · rw [if_neg e, if_neg e, nI_add]
