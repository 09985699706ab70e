/-! numbers: rows over nI; and what the shop does, on the state's registers: 0 (0 the labels' count, 1 the time, 2 the orders made), 1 prices, 2 wares, 3 shown, 4 ghosts, 5 batteries, 6 lost sendings, 7 lost answers, 8 orders (0: none), 9 dues, 10 the last hour (60 * ware + minute; 10000: none), 11 ever (10000: none) -/
section XN
variable {p : Program} {l : Launch} {e : Env} {R : Room} {s : State} {m : MethodId} {args : Array Value} {below : List Frame} {meth : Method} {c : Code} {D : va_G} {A : Nat → Prop} {nL cells slots : Nat} {Q : State → Prop}
variable {cc : ByteArray} {own : String} {ws : va_W} {pc : Nat} {ls : List (Option Value)} {st : List Value} {a b : Nat}
theorem n_add (M : CallFix p m c cc nL s args gw own) (hdg : decode cc pc = .ok (.iadd, 1)) (kk : x_X p l e R s m args below meth c D A nL cells slots Q ws (pc + 1) ls (.int (nI (a + b)) :: st)) : x_X p l e R s m args below meth c D A nL cells slots Q ws pc ls (.int (nI b) :: .int (nI a) :: st) := x_iadd M hdg (nI_add a b) kk
theorem n_sub (M : CallFix p m c cc nL s args gw own) (h : b ≤ a) (hdg : decode cc pc = .ok (.isub, 1)) (kk : x_X p l e R s m args below meth c D A nL cells slots Q ws (pc + 1) ls (.int (nI (a - b)) :: st)) : x_X p l e R s m args below meth c D A nL cells slots Q ws pc ls (.int (nI b) :: .int (nI a) :: st) := x_isub M hdg (pk_sub h) kk
theorem n_mul (M : CallFix p m c cc nL s args gw own) (hdg : decode cc pc = .ok (.imul, 1)) (kk : x_X p l e R s m args below meth c D A nL cells slots Q ws (pc + 1) ls (.int (nI (a * b)) :: st)) : x_X p l e R s m args below meth c D A nL cells slots Q ws pc ls (.int (nI b) :: .int (nI a) :: st) := x_imul M hdg (pk_mul a b) kk
theorem n_div (M : CallFix p m c cc nL s args gw own) (ha : a < 2 ^ 31) (h0 : 0 < b) (hb : b < 2 ^ 31) (hdg : decode cc pc = .ok (.idiv, 1)) (kk : x_X p l e R s m args below meth c D A nL cells slots Q ws (pc + 1) ls (.int (nI (a / b)) :: st)) : x_X p l e R s m args below meth c D A nL cells slots Q ws pc ls (.int (nI b) :: .int (nI a) :: st) := x_idiv M hdg (nI_ne0 h0 hb) (pk_div ha h0 hb) kk
theorem n_rem (M : CallFix p m c cc nL s args gw own) (ha : a < 2 ^ 31) (h0 : 0 < b) (hb : b < 2 ^ 31) (hdg : decode cc pc = .ok (.irem, 1)) (kk : x_X p l e R s m args below meth c D A nL cells slots Q ws (pc + 1) ls (.int (nI (a % b)) :: st)) : x_X p l e R s m args below meth c D A nL cells slots Q ws pc ls (.int (nI b) :: .int (nI a) :: st) := x_irem M hdg (nI_ne0 h0 hb) (pk_rem ha h0 hb) kk
theorem n_icmp_eq (M : CallFix p m c cc nL s args gw own) {off : Int} {tgt : Nat} (ha : a < 2 ^ 31) (hb : b < 2 ^ 31) (hdg : decode cc pc = .ok (.if_icmp .eq off, 3)) (ht : (pc : Int) + off = (tgt : Int)) (kt : a = b → x_X p l e R s m args below meth c D A nL cells slots Q ws tgt ls st) (kf : ¬ a = b → x_X p l e R s m args below meth c D A nL cells slots Q ws (pc + 3) ls st) : x_X p l e R s m args below meth c D A nL cells slots Q ws pc ls (.int (nI b) :: .int (nI a) :: st) :=
  x_icmp_eq M hdg ht (fun q => kt ((nI_eq ha hb).mp q)) (fun q => kf (fun h => q ((nI_eq ha hb).mpr h)))
theorem n_icmp_ne (M : CallFix p m c cc nL s args gw own) {off : Int} {tgt : Nat} (ha : a < 2 ^ 31) (hb : b < 2 ^ 31) (hdg : decode cc pc = .ok (.if_icmp .ne off, 3)) (ht : (pc : Int) + off = (tgt : Int)) (kt : ¬ a = b → x_X p l e R s m args below meth c D A nL cells slots Q ws tgt ls st) (kf : a = b → x_X p l e R s m args below meth c D A nL cells slots Q ws (pc + 3) ls st) : x_X p l e R s m args below meth c D A nL cells slots Q ws pc ls (.int (nI b) :: .int (nI a) :: st) :=
  x_icmp_ne M hdg ht (fun q => kt (fun h => q ((nI_eq ha hb).mpr h))) (fun q => kf ((nI_eq ha hb).mp q))
theorem n_icmp_lt (M : CallFix p m c cc nL s args gw own) {off : Int} {tgt : Nat} (ha : a < 2 ^ 31) (hb : b < 2 ^ 31) (hdg : decode cc pc = .ok (.if_icmp .lt off, 3)) (ht : (pc : Int) + off = (tgt : Int)) (kt : a < b → x_X p l e R s m args below meth c D A nL cells slots Q ws tgt ls st) (kf : b ≤ a → x_X p l e R s m args below meth c D A nL cells slots Q ws (pc + 3) ls st) : x_X p l e R s m args below meth c D A nL cells slots Q ws pc ls (.int (nI b) :: .int (nI a) :: st) :=
  x_icmp_lt M hdg ht (fun q => kt ((nI_ltI ha hb).mp q)) (fun q => kf (Nat.le_of_not_lt (fun h => q ((nI_ltI ha hb).mpr h))))
theorem n_icmp_ge (M : CallFix p m c cc nL s args gw own) {off : Int} {tgt : Nat} (ha : a < 2 ^ 31) (hb : b < 2 ^ 31) (hdg : decode cc pc = .ok (.if_icmp .ge off, 3)) (ht : (pc : Int) + off = (tgt : Int)) (kt : b ≤ a → x_X p l e R s m args below meth c D A nL cells slots Q ws tgt ls st) (kf : a < b → x_X p l e R s m args below meth c D A nL cells slots Q ws (pc + 3) ls st) : x_X p l e R s m args below meth c D A nL cells slots Q ws pc ls (.int (nI b) :: .int (nI a) :: st) :=
  x_icmp_ge M hdg ht (fun q => kt ((nI_leI hb ha).mp q)) (fun q => kf (Nat.lt_of_not_le (fun h => q ((nI_leI hb ha).mpr h))))
theorem n_icmp_gt (M : CallFix p m c cc nL s args gw own) {off : Int} {tgt : Nat} (ha : a < 2 ^ 31) (hb : b < 2 ^ 31) (hdg : decode cc pc = .ok (.if_icmp .gt off, 3)) (ht : (pc : Int) + off = (tgt : Int)) (kt : b < a → x_X p l e R s m args below meth c D A nL cells slots Q ws tgt ls st) (kf : a ≤ b → x_X p l e R s m args below meth c D A nL cells slots Q ws (pc + 3) ls st) : x_X p l e R s m args below meth c D A nL cells slots Q ws pc ls (.int (nI b) :: .int (nI a) :: st) :=
  x_icmp_gt M hdg ht (fun q => kt ((nI_ltI hb ha).mp q)) (fun q => kf (Nat.le_of_not_lt (fun h => q ((nI_ltI hb ha).mpr h))))
theorem n_icmp_le (M : CallFix p m c cc nL s args gw own) {off : Int} {tgt : Nat} (ha : a < 2 ^ 31) (hb : b < 2 ^ 31) (hdg : decode cc pc = .ok (.if_icmp .le off, 3)) (ht : (pc : Int) + off = (tgt : Int)) (kt : a ≤ b → x_X p l e R s m args below meth c D A nL cells slots Q ws tgt ls st) (kf : b < a → x_X p l e R s m args below meth c D A nL cells slots Q ws (pc + 3) ls st) : x_X p l e R s m args below meth c D A nL cells slots Q ws pc ls (.int (nI b) :: .int (nI a) :: st) :=
  x_icmp_le M hdg ht (fun q => kt ((nI_leI ha hb).mp q)) (fun q => kf (Nat.lt_of_not_le (fun h => q ((nI_leI ha hb).mpr h))))
theorem n_if_eq (M : CallFix p m c cc nL s args gw own) {off : Int} {tgt : Nat} (ha : a < 2 ^ 31) (hdg : decode cc pc = .ok (.ifCond .eq off, 3)) (ht : (pc : Int) + off = (tgt : Int)) (kt : a = 0 → x_X p l e R s m args below meth c D A nL cells slots Q ws tgt ls st) (kf : ¬ a = 0 → x_X p l e R s m args below meth c D A nL cells slots Q ws (pc + 3) ls st) : x_X p l e R s m args below meth c D A nL cells slots Q ws pc ls (.int (nI a) :: st) :=
  x_if_eq M hdg ht (fun q => kt ((nI_eq ha (by decide)).mp (q.trans nI_0.symm))) (fun q => kf (fun h => q (by rw [h]; exact nI_0)))
theorem n_if_ne (M : CallFix p m c cc nL s args gw own) {off : Int} {tgt : Nat} (ha : a < 2 ^ 31) (hdg : decode cc pc = .ok (.ifCond .ne off, 3)) (ht : (pc : Int) + off = (tgt : Int)) (kt : ¬ a = 0 → x_X p l e R s m args below meth c D A nL cells slots Q ws tgt ls st) (kf : a = 0 → x_X p l e R s m args below meth c D A nL cells slots Q ws (pc + 3) ls st) : x_X p l e R s m args below meth c D A nL cells slots Q ws pc ls (.int (nI a) :: st) :=
  x_if_ne M hdg ht (fun q => kt (fun h => q (by rw [h]; exact nI_0))) (fun q => kf ((nI_eq ha (by decide)).mp (q.trans nI_0.symm)))
theorem n_if_lt (M : CallFix p m c cc nL s args gw own) {off : Int} {tgt : Nat} (ha : a < 2 ^ 31) (hdg : decode cc pc = .ok (.ifCond .lt off, 3)) (ht : (pc : Int) + off = (tgt : Int)) (kt : False → x_X p l e R s m args below meth c D A nL cells slots Q ws tgt ls st) (kf : True → x_X p l e R s m args below meth c D A nL cells slots Q ws (pc + 3) ls st) : x_X p l e R s m args below meth c D A nL cells slots Q ws pc ls (.int (nI a) :: st) :=
  x_if_lt M hdg ht (fun q => kt (absurd q (nI_pos ha))) (fun q => kf (trivial))
theorem n_if_ge (M : CallFix p m c cc nL s args gw own) {off : Int} {tgt : Nat} (ha : a < 2 ^ 31) (hdg : decode cc pc = .ok (.ifCond .ge off, 3)) (ht : (pc : Int) + off = (tgt : Int)) (kt : True → x_X p l e R s m args below meth c D A nL cells slots Q ws tgt ls st) (kf : False → x_X p l e R s m args below meth c D A nL cells slots Q ws (pc + 3) ls st) : x_X p l e R s m args below meth c D A nL cells slots Q ws pc ls (.int (nI a) :: st) :=
  x_if_ge M hdg ht (fun q => kt (trivial)) (fun q => kf (absurd (nI_pos' ha) q))
theorem n_if_gt (M : CallFix p m c cc nL s args gw own) {off : Int} {tgt : Nat} (ha : a < 2 ^ 31) (hdg : decode cc pc = .ok (.ifCond .gt off, 3)) (ht : (pc : Int) + off = (tgt : Int)) (kt : 0 < a → x_X p l e R s m args below meth c D A nL cells slots Q ws tgt ls st) (kf : a = 0 → x_X p l e R s m args below meth c D A nL cells slots Q ws (pc + 3) ls st) : x_X p l e R s m args below meth c D A nL cells slots Q ws pc ls (.int (nI a) :: st) :=
  x_if_gt M hdg ht (fun q => kt (by have h := (nI_ltI (by decide) ha).mp (show nI 0 < nI a from by rw [nI_0]; exact q); omega)) (fun q => kf (by rcases Nat.eq_zero_or_pos a with h | h; exact h; exact absurd (show (0 : Int32) < nI a from by rw [← nI_0]; exact nI_lt h ha) q))
theorem n_if_le (M : CallFix p m c cc nL s args gw own) {off : Int} {tgt : Nat} (ha : a < 2 ^ 31) (hdg : decode cc pc = .ok (.ifCond .le off, 3)) (ht : (pc : Int) + off = (tgt : Int)) (kt : a = 0 → x_X p l e R s m args below meth c D A nL cells slots Q ws tgt ls st) (kf : 0 < a → x_X p l e R s m args below meth c D A nL cells slots Q ws (pc + 3) ls st) : x_X p l e R s m args below meth c D A nL cells slots Q ws pc ls (.int (nI a) :: st) :=
  x_if_le M hdg ht (fun q => kt (by rcases Nat.eq_zero_or_pos a with h | h; exact h; exact absurd q (nI_nle h ha))) (fun q => kf (by rcases Nat.eq_zero_or_pos a with h | h; exact absurd (show nI a ≤ 0 from by rw [h, nI_0]; decide) q; exact h))
theorem b_if_eq (M : CallFix p m c cc nL s args gw own) {P : Prop} [Decidable P] {off : Int} {tgt : Nat} (hdg : decode cc pc = .ok (.ifCond .eq off, 3)) (ht : (pc : Int) + off = (tgt : Int)) (kt : ¬ P → x_X p l e R s m args below meth c D A nL cells slots Q ws tgt ls st) (kf : P → x_X p l e R s m args below meth c D A nL cells slots Q ws (pc + 3) ls st) : x_X p l e R s m args below meth c D A nL cells slots Q ws pc ls (.int (if P then 1 else 0) :: st) :=
  x_if_eq M hdg ht (fun q => kt (fun h => by rw [if_pos h] at q; exact absurd q (by decide))) (fun q => kf (by by_cases h : P; exact h; exact absurd (if_neg h) q))
theorem b_if_ne (M : CallFix p m c cc nL s args gw own) {P : Prop} [Decidable P] {off : Int} {tgt : Nat} (hdg : decode cc pc = .ok (.ifCond .ne off, 3)) (ht : (pc : Int) + off = (tgt : Int)) (kt : P → x_X p l e R s m args below meth c D A nL cells slots Q ws tgt ls st) (kf : ¬ P → x_X p l e R s m args below meth c D A nL cells slots Q ws (pc + 3) ls st) : x_X p l e R s m args below meth c D A nL cells slots Q ws pc ls (.int (if P then 1 else 0) :: st) :=
  x_if_ne M hdg ht (fun q => kt (by by_cases h : P; exact h; exact absurd (if_neg h) q)) (fun q => kf (fun h => by rw [if_pos h] at q; exact absurd q (by decide)))
theorem n_inc0 (M : CallFix p m c cc nL s args gw own) {t : List (Option Value)} (hdg : decode cc pc = .ok (.iinc 0 1, 3)) (kk : x_X p l e R s m args below meth c D A nL cells slots Q ws (pc + 3) (some (.int (nI (a + 1))) :: t) st) : x_X p l e R s m args below meth c D A nL cells slots Q ws pc (some (.int (nI a)) :: t) st := x_iinc0 M hdg (nI_1 a) kk
theorem n_inc1 (M : CallFix p m c cc nL s args gw own) {b0 : Option Value} {t : List (Option Value)} (hdg : decode cc pc = .ok (.iinc 1 1, 3)) (kk : x_X p l e R s m args below meth c D A nL cells slots Q ws (pc + 3) (b0 :: some (.int (nI (a + 1))) :: t) st) : x_X p l e R s m args below meth c D A nL cells slots Q ws pc (b0 :: some (.int (nI a)) :: t) st := x_iinc1 M hdg (nI_1 a) kk
theorem n_inc2 (M : CallFix p m c cc nL s args gw own) {b0 b1 : Option Value} {t : List (Option Value)} (hdg : decode cc pc = .ok (.iinc 2 1, 3)) (kk : x_X p l e R s m args below meth c D A nL cells slots Q ws (pc + 3) (b0 :: b1 :: some (.int (nI (a + 1))) :: t) st) : x_X p l e R s m args below meth c D A nL cells slots Q ws pc (b0 :: b1 :: some (.int (nI a)) :: t) st := x_iinc2 M hdg (nI_1 a) kk
theorem n_inc3 (M : CallFix p m c cc nL s args gw own) {b0 b1 b2 : Option Value} {t : List (Option Value)} (hdg : decode cc pc = .ok (.iinc 3 1, 3)) (kk : x_X p l e R s m args below meth c D A nL cells slots Q ws (pc + 3) (b0 :: b1 :: b2 :: some (.int (nI (a + 1))) :: t) st) : x_X p l e R s m args below meth c D A nL cells slots Q ws pc (b0 :: b1 :: b2 :: some (.int (nI a)) :: t) st := x_iinc3 M hdg (nI_1 a) kk
theorem n_inc4 (M : CallFix p m c cc nL s args gw own) {b0 b1 b2 b3 : Option Value} {t : List (Option Value)} (hdg : decode cc pc = .ok (.iinc 4 1, 3)) (kk : x_X p l e R s m args below meth c D A nL cells slots Q ws (pc + 3) (b0 :: b1 :: b2 :: b3 :: some (.int (nI (a + 1))) :: t) st) : x_X p l e R s m args below meth c D A nL cells slots Q ws pc (b0 :: b1 :: b2 :: b3 :: some (.int (nI a)) :: t) st := x_iinc4 M hdg (nI_1 a) kk
theorem n_inc5 (M : CallFix p m c cc nL s args gw own) {b0 b1 b2 b3 b4 : Option Value} {t : List (Option Value)} (hdg : decode cc pc = .ok (.iinc 5 1, 3)) (kk : x_X p l e R s m args below meth c D A nL cells slots Q ws (pc + 3) (b0 :: b1 :: b2 :: b3 :: b4 :: some (.int (nI (a + 1))) :: t) st) : x_X p l e R s m args below meth c D A nL cells slots Q ws pc (b0 :: b1 :: b2 :: b3 :: b4 :: some (.int (nI a)) :: t) st := x_iinc5 M hdg (nI_1 a) kk
theorem n_inc6 (M : CallFix p m c cc nL s args gw own) {b0 b1 b2 b3 b4 b5 : Option Value} {t : List (Option Value)} (hdg : decode cc pc = .ok (.iinc 6 1, 3)) (kk : x_X p l e R s m args below meth c D A nL cells slots Q ws (pc + 3) (b0 :: b1 :: b2 :: b3 :: b4 :: b5 :: some (.int (nI (a + 1))) :: t) st) : x_X p l e R s m args below meth c D A nL cells slots Q ws pc (b0 :: b1 :: b2 :: b3 :: b4 :: b5 :: some (.int (nI a)) :: t) st := x_iinc6 M hdg (nI_1 a) kk
theorem n_inc4_3 (M : CallFix p m c cc nL s args gw own) {b0 b1 b2 b3 : Option Value} {t : List (Option Value)} (hdg : decode cc pc = .ok (.iinc 4 3, 3)) (kk : x_X p l e R s m args below meth c D A nL cells slots Q ws (pc + 3) (b0 :: b1 :: b2 :: b3 :: some (.int (nI (a + 3))) :: t) st) : x_X p l e R s m args below meth c D A nL cells slots Q ws pc (b0 :: b1 :: b2 :: b3 :: some (.int (nI a)) :: t) st := x_iinc4 M hdg (nI_add a 3) kk
end XN
def Bd (S : St) : Prop := ∀ r i, S r i < 2 ^ 30
abbrev due (S : St) (i : Nat) : Prop := S 8 i ≠ 0 ∧ S 9 i ≤ S 0 1
abbrev bef (S : St) (i j : Nat) : Prop := S 9 i < S 9 j ∨ (S 9 i = S 9 j ∧ S 8 i < S 8 j)
/-- which of the first k labels is sent to next -/
def nxt (S : St) : Nat → Option Nat
  | 0 => none
  | k + 1 => match nxt S k with
    | none => if due S k then some k else none
    | some j => if due S k ∧ bef S k j then some k else some j
def oI (o : Option Nat) : Int32 := match o with
  | none => -1
  | some i => nI i
def gets (S : St) (i : Nat) : St := up (up (up S 0 2 (S 0 2 + 1)) 8 i (S 0 2 + 1)) 9 i (S 0 1)
/-- a new price: the orders of the first k labels -/
def spl (S : St) (w : Nat) : Nat → St × Nat
  | 0 => (S, 0)
  | k + 1 => if S 2 k = w then (gets (spl S w k).1 k, (spl S w k).2 + 1) else spl S w k
def dg1 (a b u : Nat) : Nat := if a / u % 10 = b / u % 10 then 0 else 1
def digs (a b : Nat) : Nat := dg1 a b 1 + dg1 a b 10 + dg1 a b 100 + dg1 a b 1000
def redr (S : St) (i : Nat) : St :=
  if digs (S 3 i) (S 1 (S 2 i)) = 0 then S
  else if 9 < S 4 i + digs (S 3 i) (S 1 (S 2 i)) then up (up (up S 5 i (S 5 i - 20)) 4 i 0) 3 i (S 1 (S 2 i))
  else up (up (up S 5 i (S 5 i - 10)) 4 i (S 4 i + digs (S 3 i) (S 1 (S 2 i)))) 3 i (S 1 (S 2 i))
def answ (S : St) (i : Nat) : St := if 0 < S 7 i then up S 7 i (S 7 i - 1) else up S 8 i 0
def sen1 (S : St) (i : Nat) : St := if 0 < S 6 i then up S 6 i (S 6 i - 1) else if 20 ≤ S 5 i then answ (redr S i) i else S
def sen (S : St) (i : Nat) : St := sen1 (up S 9 i (S 0 1 + 5)) i
/-- the least price that the first k labels show for w now -/
def lnow (S : St) (w : Nat) : Nat → Nat
  | 0 => 10000
  | k + 1 => if S 2 k = w then min (lnow S w k) (S 3 k) else lnow S w k
/-- the end of a minute, as far as the first k labels -/
def xem (S : St) (k : Nat) : St := fun r i => if r = 5 then (if i < k then S 5 i - 1 else S 5 i)
  else if r = 10 then (if i < 720 ∧ i % 60 = S 0 1 % 60 then lnow S (i / 60) k else S 10 i)
  else if r = 11 then (if i < 12 then min (S 11 i) (lnow S i k) else S 11 i) else S r i
def slot (S : St) : St × Nat := match nxt S (S 0 0) with
  | none => (S, 0)
  | some i => (sen S i, 1)
def tick (S : St) : St := up S 0 1 (S 0 1 + 1)
def mnt (S : St) : St × Nat := (xem (slot (slot (tick S)).1).1 (S 0 0), (slot (tick S)).2 + (slot (slot (tick S)).1).2)
def mnts (S : St) : Nat → St × Nat
  | 0 => (S, 0)
  | k + 1 => ((mnt (mnts S k).1).1, (mnts S k).2 + (mnt (mnts S k).1).2)
def cnt (S : St) : Nat → Nat
  | 0 => 0
  | k + 1 => if S 8 k = 0 then cnt S k else cnt S k + 1
def lie (S : St) : Nat → Int32
  | 0 => nI 0
  | k + 1 => if S 3 k < S 1 (S 2 k) then lie S k ||| (nI 1 <<< (nI k &&& 31)) else lie S k
def lhr (S : St) (w : Nat) : Nat → Nat
  | 0 => 10000
  | k + 1 => min (lhr S w k) (S 10 (60 * w + k))
/-- an argument that is no number below n -/
def bad (n : Nat) (x : Int32) : Prop := ¬ (¬ x < 0 ∧ x < nI n)
theorem bad_or (n : Nat) (hn : n < 2 ^ 31) (x : Int32) : (∃ j : Nat, j < n ∧ x = nI j) ∨ bad n x := by
  rcases pk_ix x hn with h | h | h
  · exact Or.inr (fun q => q.1 h)
  · exact Or.inr (fun q => Int32.lt_irrefl (Int32.lt_of_lt_of_le q.2 h))
  · exact Or.inl h
theorem bad_no {n j : Nat} (hn : n < 2 ^ 31) (h : j < n) : ¬ bad n (nI j) := fun q => q ⟨nI_pos (by omega), nI_lt h hn⟩
