/-! what a state of the class is (PubQuizzes$State), what can be asked of it, in numbers -/
abbrev q_St : Type := (Nat → Int32) × (Nat → Int32) × (Nat → Int32) × (Nat → Int32) × (Nat → Int32) × (Nat → Int64) × (Nat → Int64) × (Nat → Int32) × (Nat → Int32) × (Nat → Int32) × Nat × Int32
abbrev s_set (S : q_St) : Nat → Int32 := S.1
abbrev s_paid (S : q_St) : Nat → Int32 := S.2.1
abbrev s_jok (S : q_St) : Nat → Int32 := S.2.2.1
abbrev s_fin (S : q_St) : Nat → Int32 := S.2.2.2.1
abbrev s_gue (S : q_St) : Nat → Int32 := S.2.2.2.2.1
abbrev s_key (S : q_St) : Nat → Int64 := S.2.2.2.2.2.1
abbrev s_she (S : q_St) : Nat → Int64 := S.2.2.2.2.2.2.1
abbrev s_mar (S : q_St) : Nat → Int32 := S.2.2.2.2.2.2.2.1
abbrev s_mkr (S : q_St) : Nat → Int32 := S.2.2.2.2.2.2.2.2.1
abbrev s_loo (S : q_St) : Nat → Int32 := S.2.2.2.2.2.2.2.2.2.1
abbrev s_n (S : q_St) : Nat := S.2.2.2.2.2.2.2.2.2.2.1
abbrev s_tru (S : q_St) : Int32 := S.2.2.2.2.2.2.2.2.2.2.2
def q_stF (q : Nat → Nat) (S : q_St) : List Value := [.ref (q 1), .ref (q 2), .ref (q 3), .ref (q 4), .ref (q 5), .ref (q 6), .ref (q 7), .ref (q 8), .ref (q 9), .ref (q 10), .int (nI (s_n S)), .int (s_tru S)]
def q_stW (g : q_G) (q : Nat → Nat) (S : q_St) : va_W := [(q 0, .inr (2, q_stF q S)), (q 1, .inl (g.2 0, 4, .inl (s_set S))), (q 2, .inl (g.2 0, 10, .inl (s_paid S))), (q 3, .inl (g.2 0, 10, .inl (s_jok S))), (q 4, .inl (g.2 0, 10, .inl (s_fin S))), (q 5, .inl (g.2 0, 10, .inl (s_gue S))), (q 6, .inl (g.2 1, 8, .inr (.inl (s_key S)))), (q 7, .inl (g.2 1, 80, .inr (.inl (s_she S)))), (q 8, .inl (g.2 0, 80, .inl (s_mar S))), (q 9, .inl (g.2 0, 80, .inl (s_mkr S))), (q 10, .inl (g.2 0, 8, .inl (s_loo S)))]
def isTm (S : q_St) (x : Int32) : Bool := !decide (x < 0) && !decide (nI (s_n S) ≤ x) && !decide ((10 : Int32) ≤ x)
def isOp (S : q_St) (r : Nat) : Bool := decide (s_key S r = -1)
def hasS (S : q_St) (t r : Nat) : Bool := decide (¬ s_she S (t * 8 + r) = -1)
def tldS (S : q_St) (t r : Nat) : Bool := decide (¬ s_mkr S (t * 8 + r) = -6)
def lokS (S : q_St) (t r : Nat) : Bool := decide (¬ (s_loo S r &&& ((1 : Int32) <<< (nI t &&& 31))) = 0)
def sgn (w : Int64) (k : Nat) : Int32 := ((w.toUInt64 >>> (((4 : Int32) * nI k).toInt64.toUInt64 &&& Int64.toUInt64 63)).toInt64).toInt32 &&& 15
def tmk (w key : Int64) (mi : Int32) (k : Nat) : Int32 := if sgn w k = sgn key k then 1 else if sgn w k = 15 then 0 else -mi
def truM (S : q_St) (t r : Nat) : Int32 := q_acc 0 (tmk (s_she S (t * 8 + r)) (s_key S r) (s_set S 2)) 10
def ans1 (w : Int64) (k : Nat) : Bool := decide (¬ sgn w k = 15)
def ansN (S : q_St) (t r : Nat) : Nat := q_cnt (ans1 (s_she S (t * 8 + r))) 10
def wroS (S : q_St) (t r : Nat) : Bool := tldS S t r && !lokS S t r && decide (¬ s_mar S (t * 8 + r) = truM S t r)
def withJ (S : q_St) (t r : Nat) (x : Int32) : Int32 := if s_jok S t = nI r then 2 * x else x
def ptsS (S : q_St) (t r : Nat) : Int32 := if s_mkr S (t * 8 + r) = -6 then 0 else withJ S t r (s_mar S (t * 8 + r))
def fineS (S : q_St) (t : Nat) : Int32 := -(s_set S 3) * s_fin S t
def scoS (S : q_St) (t : Nat) : Int32 := q_acc (fineS S t) (ptsS S t) 8
def distS (S : q_St) (t : Nat) : Int32 := if s_tru S = -6 then 10000 else if s_gue S t = -6 then 10000 else if 0 ≤ s_gue S t - s_tru S then s_gue S t - s_tru S else 0 - (s_gue S t - s_tru S)
def aheS (S : q_St) (t o : Nat) : Bool := decide (0 < scoS S t - scoS S o) || (decide (scoS S t - scoS S o = 0) && !decide (distS S o ≤ distS S t))
def rnkS (S : q_St) (t : Nat) : Nat := q_cnt (fun o => aheS S o t) (s_n S) + 1
def tie1 (S : q_St) (t o : Nat) : Bool := !decide (nI o = nI t) && !aheS S o t && !aheS S t o
def tieS (S : q_St) (t : Nat) : Int32 := q_or (tie1 S t) (s_n S)
/-- Integer.bitCount as it counts -/
def popc (x : Int32) : Int32 :=
  let sh := fun (z : Int32) (k : Int32) => (z.toUInt32 >>> (k.toUInt32 &&& Int32.toUInt32 31)).toInt32
  let a := x - (sh x 1 &&& 1431655765)
  let b := (a &&& 858993459) + (sh a 2 &&& 858993459)
  let c := (b + sh b 4) &&& 252645135
  let d := c + sh c 8
  let e := d + sh d 16
  e &&& 63
def lowM (x : Int32) (t : Nat) : Int32 := x &&& (((1 : Int32) <<< (nI t &&& 31)) - 1)
def plcS (S : q_St) (t : Nat) : Int32 := nI (rnkS S t) - 1 + nI (q_cnt (tie1 S t) t)
def entS (S : q_St) : Int32 := q_acc 0 (s_paid S) (s_n S)
def houS (S : q_St) : Int32 := entS S * s_set S 1 / 100
def potS (S : q_St) : Int32 := entS S - houS S
def secS (S : q_St) : Int32 := if nI (s_n S) < 2 then 0 else potS S * 30 / 100
def thiS (S : q_St) : Int32 := if nI (s_n S) < 3 then 0 else potS S * 10 / 100
def prpS (S : q_St) (x : Int32) : Int32 := if x = 1 then potS S - secS S - thiS S else if x = 2 then secS S else if x = 3 then thiS S else 0
/-- points of a team's round, were the joker on round j -/
def wjS (S : q_St) (t : Nat) (j : Int32) (r : Nat) : Int32 := if nI r = j then 2 * (if tldS S t r = true then s_mar S (t * 8 + r) else 0) else (if tldS S t r = true then s_mar S (t * 8 + r) else 0)
def swjS (S : q_St) (t : Nat) (j : Int32) : Int32 := q_acc (fineS S t) (wjS S t j) 8
def besS (S : q_St) (t : Nat) : Nat → Nat
  | 0 => 0
  | n + 1 => if swjS S t (nI n) ≤ swjS S t (nI (besS S t n)) then besS S t n else n
def chiS (S : q_St) (t r : Nat) : Bool := isOp S r && !hasS S t r
def gmkS (S : q_St) (t r : Nat) : Int32 := if tldS S t r = true then s_mar S (t * 8 + r) else if hasS S t r = true then 10 else if isOp S r = true then 10 else 0
def cpj1 (S : q_St) (t r : Nat) : Bool := decide (s_jok S t = -6) && chiS S t r
def gscS (S : q_St) (t : Nat) : Int32 := if q_any (cpj1 S t) 8 = true then q_acc (fineS S t) (fun r => withJ S t r (gmkS S t r)) 8 + 10 else q_acc (fineS S t) (fun r => withJ S t r (gmkS S t r)) 8
def cro1 (S : q_St) (t o : Nat) : Bool := !decide (nI o = nI t) && !decide (scoS S o ≤ gscS S t)
def croS (S : q_St) (t : Nat) : Bool := !q_any (cro1 S t) (s_n S)
def wmt1 (S : q_St) (m : Nat) (t r : Nat) : Bool := decide (s_mkr S (t * 8 + r) = nI m) && wroS S t r
def wmtA (S : q_St) (m : Nat) : Nat → Nat
  | 0 => 0
  | n + 1 => wmtA S m n + q_cnt (wmt1 S m n) 8
def sil1 (S : q_St) (t r : Nat) : Int32 := if wroS S t r = true then withJ S t r (truM S t r - s_mar S (t * 8 + r)) else 0
def silS (S : q_St) (t : Nat) : Int32 := q_acc (scoS S t - s_set S 3 * nI (wmtA S t (s_n S))) (sil1 S t) 8
def wroA (S : q_St) : Nat → Nat
  | 0 => 0
  | n + 1 => wroA S n + q_cnt (wroS S n) 8
def finA (S : q_St) : Int32 := q_acc 0 (s_fin S) (s_n S)
def looA (S : q_St) : Int32 := q_acc 0 (fun r => popc (s_loo S r)) 8
def fst1 (S : q_St) (t : Nat) : Bool := !q_any (fun o => decide (scoS S o = scoS S t)) t
def unlS (S : q_St) : Nat := q_cnt (fst1 S) (s_n S)
def grtS (S : q_St) (r : Nat) : Nat → Int32
  | 0 => ptsS S 0 r
  | n + 1 => if grtS S r n < ptsS S n r then ptsS S n r else grtS S r n
def shrN (S : q_St) (t : Nat) : Nat := q_cnt (tie1 S t) (s_n S) + 1
def sumP (S : q_St) (t k : Nat) : Int32 := q_acc 0 (fun j => prpS S (nI (rnkS S t + j))) k
def przS (S : q_St) (t : Nat) : Int32 := sumP S t (shrN S t) / nI (shrN S t) + (if sumP S t (shrN S t) - sumP S t (shrN S t) / nI (shrN S t) * nI (shrN S t) ≤ nI (q_cnt (tie1 S t) t) then 0 else 1)
def gueN (S : q_St) : Nat := q_cnt (fun t => !decide (s_gue S t = -6)) (s_n S)
/-! the bits of a set that is told bit by bit -/
theorem nx_and' (a b : Nat) : nI a &&& nI b = nI (a &&& b) := by
  refine Int32.toBitVec_inj.mp ?_
  show (BitVec.ofNat 32 a &&& BitVec.ofNat 32 b) = BitVec.ofNat 32 (a &&& b)
  rw [BitVec.ofNat_and]
theorem q_bits : ∀ n : Fin 10, ∀ m : Fin (2 ^ n.val), nI m.val ||| ((1 : Int32) <<< (nI n.val &&& 31)) = nI (m.val + 2 ^ n.val) ∧ popc (nI (m.val + 2 ^ n.val)) = popc (nI m.val) + 1 := by decide +kernel
theorem q_orN (f : Nat → Bool) : ∀ n : Nat, n ≤ 10 → ∃ m : Nat, m < 2 ^ n ∧ q_or f n = nI m ∧ popc (nI m) = nI (q_cnt f n)
  | 0, _ => ⟨0, by decide, rfl, by show popc 0 = 0; decide⟩
  | n + 1, h => by
    obtain ⟨m, h1, h2, h3⟩ := q_orN f n (by omega)
    have hp : 2 ^ (n + 1) = 2 ^ n + 2 ^ n := by rw [Nat.pow_succ]; omega
    by_cases c : f n = true
    · obtain ⟨b1, b2⟩ := q_bits ⟨n, by omega⟩ ⟨m, h1⟩
      refine ⟨m + 2 ^ n, by omega, ?_, ?_⟩
      · simp only [q_or, c, if_true, h2]; exact b1
      · rw [b2, h3]; simp [q_cnt, c, nI_1]
    · refine ⟨m, by omega, ?_, ?_⟩
      · simp [q_or, c, h2]
      · simp [q_cnt, c, h3]
theorem q_popN (f : Nat → Bool) (n : Nat) (h : n ≤ 10) : popc (q_or f n) = nI (q_cnt f n) := by
  obtain ⟨m, -, h2, h3⟩ := q_orN f n h
  rw [h2, h3]
theorem q_lowb : ∀ t : Fin 10, (((1 : Int32) <<< (nI t.val &&& 31)) - 1) = nI (2 ^ t.val - 1) := by decide +kernel
theorem q_lowN (f : Nat → Bool) (t : Nat) (ht : t < 10) : ∀ n : Nat, t ≤ n → n ≤ 10 → lowM (q_or f n) t = q_or f t := by
  intro n h1 h2
  induction n with
  | zero =>
    have e : t = 0 := by omega
    subst e; show lowM 0 0 = 0; decide
  | succ n ih =>
    unfold lowM at ih ⊢
    rw [q_lowb ⟨t, ht⟩] at ih ⊢
    rcases Nat.lt_or_ge t (n + 1) with c | c
    · rw [← ih (by omega) (by omega)]
      obtain ⟨m, m1, m2, -⟩ := q_orN f n (by omega)
      by_cases cf : f n = true
      · simp only [q_or, cf, if_true]
        rw [m2, (q_bits ⟨n, by omega⟩ ⟨m, m1⟩).1]
        show nI (m + 2 ^ n) &&& nI (2 ^ t - 1) = nI m &&& nI (2 ^ t - 1)
        rw [nx_and', nx_and', Nat.and_two_pow_sub_one_eq_mod, Nat.and_two_pow_sub_one_eq_mod]
        have e : 2 ^ n = 2 ^ t * 2 ^ (n - t) := by rw [← Nat.pow_add]; congr 1; omega
        rw [e, Nat.add_mul_mod_self_left]
      · simp [q_or, cf]
    · have e : t = n + 1 := by omega
      subst e
      obtain ⟨m, m1, m2, -⟩ := q_orN f (n + 1) h2
      rw [m2]
      show nI m &&& nI (2 ^ (n + 1) - 1) = nI m
      rw [nx_and', Nat.and_two_pow_sub_one_eq_mod, Nat.mod_eq_of_lt m1]
theorem q_lowC (f : Nat → Bool) (t n : Nat) (h1 : t ≤ n) (ht : t < 10) (h2 : n ≤ 10) : popc (lowM (q_or f n) t) = nI (q_cnt f t) := by
  rw [q_lowN f t ht n h1 h2, q_popN f t (by omega)]
theorem bI_o1 (x : Bool) : bI x ||| 1 = 1 := by cases x <;> decide
theorem bI_o0 (x : Bool) : bI x ||| 0 = bI x := by cases x <;> decide
theorem q_sumP (S : q_St) (t i : Nat) (h : rnkS S t ≤ i) : sumP S t (i - rnkS S t) + prpS S (nI i) = sumP S t (i + 1 - rnkS S t) := by
  have e : i + 1 - rnkS S t = (i - rnkS S t) + 1 := by omega
  rw [e]
  show _ = sumP S t (i - rnkS S t) + prpS S (nI (rnkS S t + (i - rnkS S t)))
  rw [show rnkS S t + (i - rnkS S t) = i from by omega]
theorem q_cnt_le (f : Nat → Bool) : ∀ n : Nat, q_cnt f n ≤ n
  | 0 => Nat.le_refl 0
  | n + 1 => by
    have h := q_cnt_le f n
    show q_cnt f n + (if f n = true then 1 else 0) ≤ n + 1
    split <;> omega
