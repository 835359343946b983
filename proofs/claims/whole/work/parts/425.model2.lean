/-! more of the reference, in numbers -/
def ten1 (C : Nat → Int32) (bd : Bool) (k : Nat) : Bool := isDg (C k) || (!bd && decide (C k = 45))
def tenP (C : Nat → Int32) (n : Nat) (bd : Bool) : Bool := decide (n = 10) && !q_any (fun k => !ten1 C bd k) 10
theorem q_any_mono {f : Nat → Bool} {i n : Nat} (hi : i ≤ n) (h : q_any f i = true) : q_any f n = true := by
  induction n with
  | zero => have e : i = 0 := by omega
            subst e; exact h
  | succ n ih =>
    rcases Nat.lt_or_ge i (n + 1) with c | c
    · show (q_any f n || f n) = true
      rw [ih (by omega)]; rfl
    · have e : i = n + 1 := by omega
      subst e; exact h
theorem q_any_f {f : Nat → Bool} {n : Nat} (h : ∀ k, k < n → f k = false) : q_any f n = false := by
  induction n with
  | zero => rfl
  | succ n ih =>
    show (q_any f n || f n) = false
    rw [ih (fun k hk => h k (by omega)), h n (by omega)]; rfl
theorem q_any_at {f : Nat → Bool} {n : Nat} (h : q_any f n = false) {k : Nat} (hk : k < n) : f k = false := by
  cases c : f k with
  | false => rfl
  | true => rw [q_any_t hk c] at h; cases h
theorem ten_e {C : Nat → Int32} {n i : Nat} {bd : Bool} (hi : i ≤ 10) (h : (decide (n = 10) && !q_any (fun k => !ten1 C bd k) i) = false) : tenP C n bd = false := by
  unfold tenP
  cases c : decide (n = 10) with
  | false => rfl
  | true =>
    rw [c] at h
    have h2 : q_any (fun k => !ten1 C bd k) i = true := by simpa using h
    rw [q_any_mono hi h2]; rfl
theorem lead_all {f : Nat → Bool} {n : Nat} (h : lead f n = n) : ∀ k, k < n → f k = true := by
  induction n with
  | zero => intro k hk; omega
  | succ n ih =>
    unfold lead at h
    split at h
    · next c =>
      intro k hk
      rcases Nat.lt_or_ge k n with d | d
      · exact ih c.1 k d
      · have e : k = n := by omega
        subst e; exact c.2
    · have := lead_le f n
      omega
theorem lead_of {f : Nat → Bool} : ∀ {n : Nat}, (∀ k, k < n → f k = true) → lead f n = n
  | 0, _ => rfl
  | n + 1, h => lead_s (lead_of fun k hk => h k (by omega)) (h n (by omega))
theorem fau_iff {C : Nat → Int32} {n : Nat} : fauI C n = -6 ↔ n = 10 ∧ ∀ k, k < 10 → isSg (C k) = true := by
  unfold fauI
  constructor
  · intro h
    split at h
    · next c =>
      refine ⟨c.2, fun k hk => ?_⟩
      have := lead_all (c.1.trans c.2.symm) k (by omega)
      simp only [pdf, Bool.and_eq_true] at this
      exact this.2
    · exact absurd h (nI_6 (by
        next c =>
        rcases Nat.lt_or_ge (lead (pdf C) n) 20 with q | q
        · omega
        · have h0 := lead_le (pdf C) n
          have h1 : ∀ m, lead (pdf C) m ≤ 10 := by
            intro m
            induction m with
            | zero => show 0 ≤ 10; omega
            | succ m ih =>
              unfold lead
              split
              · next c2 =>
                have := c2.2
                simp [pdf] at this
                omega
              · exact ih
          have := h1 n
          omega))
  · rintro ⟨rfl, h⟩
    rw [if_pos]
    refine ⟨lead_of fun k hk => ?_, rfl⟩
    simp only [pdf, h k hk, decide_eq_true hk]; rfl
theorem ten_f {C : Nat → Int32} {n : Nat} : tenP C n false = tshP C n := by
  unfold tenP tshP
  by_cases h : n = 10
  · subst h
    rw [decide_eq_true (rfl : (10 : Nat) = 10), Bool.true_and]
    have e : (fun k => !ten1 C false k) = fun k => !isSg (C k) := by
      funext k; simp [ten1, isSg, Bool.or_comm]
    rw [e]
    by_cases q : ∀ k, k < 10 → isSg (C k) = true
    · rw [q_any_f (fun k hk => by rw [q k hk]; rfl), decide_eq_true (fau_iff.mpr ⟨rfl, q⟩)]; rfl
    · rw [decide_eq_false (fun z => q (fau_iff.mp z).2)]
      cases c : q_any (fun k => !isSg (C k)) 10 with
      | true => rfl
      | false => exact absurd (fun k hk => by simpa using q_any_at c hk) q
  · rw [decide_eq_false h, decide_eq_false (fun z => h (fau_iff.mp z).1)]; rfl
theorem ten_t {C : Nat → Int32} {n : Nat} : tenP C n true = tkyP C n := by
  unfold tkyP
  rw [← ten_f]
  unfold tenP
  by_cases h : n = 10
  · subst h
    rw [decide_eq_true (rfl : (10 : Nat) = 10), Bool.true_and, Bool.true_and]
    have e : (fun k => !ten1 C true k) = fun k => !isDg (C k) := by
      funext k; simp [ten1]
    rw [e]
    cases c : q_any (fun k => !isDg (C k)) 10 with
    | true => simp
    | false =>
      rw [q_any_f (fun k hk => by have := q_any_at c hk; simp only [ten1]; simp at this; rw [this]; rfl)]
      rfl
  · rw [decide_eq_false h]; rfl
def grxS (S : q_St) (r n : Nat) : Int32 := if n = 0 then -6 else grtS S r n + 100
theorem grt_rg {S : q_St} {K : Nat} (ho : q_ok K S) {r : Nat} (hr : r < 8) : ∀ n : Nat, n ≤ 10 → rgI (grtS S r n) (-40) 20
  | 0, _ => rg_pts ho (by decide) hr
  | n + 1, h => by
    unfold grtS
    split
    · exact rg_pts ho (by omega) hr
    · exact grt_rg ho hr n (by omega)
theorem grt_1 (S : q_St) (r : Nat) : grtS S r 1 = ptsS S 0 r := by simp [grtS, Int32.lt_irrefl]
theorem grx_a {S : q_St} {r i : Nat} (h : i = 0) : ptsS S i r + 100 = grxS S r (i + 1) := by
  subst h
  unfold grxS
  rw [if_neg (by omega), grt_1]
theorem grx_cmp {S : q_St} {K : Nat} (ho : q_ok K S) {r i : Nat} (hr : r < 8) (hi : i < 10) (h : ¬ i = 0) : ptsS S i r + 100 ≤ grxS S r i ↔ ptsS S i r ≤ grtS S r i := by
  unfold grxS
  rw [if_neg h]
  have h1 := (rg_add (rg_pts ho hi hr) (y := 100) (c := 100) (d := 100) (by unfold rgI; decide) (by decide) (by decide)).2
  have h2 := (rg_add (grt_rg ho hr i (by omega)) (y := 100) (c := 100) (d := 100) (by unfold rgI; decide) (by decide) (by decide)).2
  rw [Int32.le_iff_toInt_le, Int32.le_iff_toInt_le, h1, h2]
  omega
theorem grx_b {S : q_St} {K : Nat} (ho : q_ok K S) {r i : Nat} (hr : r < 8) (hi : i < 10) (h : ¬ i = 0) (c : ¬ ptsS S i r + 100 ≤ grxS S r i) : ptsS S i r + 100 = grxS S r (i + 1) := by
  have c2 : grtS S r i < ptsS S i r := Int32.not_le.mp fun q => c ((grx_cmp ho hr hi h).mpr q)
  unfold grxS
  rw [if_neg (by omega)]
  unfold grtS
  rw [if_pos c2]
theorem grx_c {S : q_St} {K : Nat} (ho : q_ok K S) {r i : Nat} (hr : r < 8) (hi : i < 10) (h : ¬ i = 0) (c : ptsS S i r + 100 ≤ grxS S r i) : grxS S r i = grxS S r (i + 1) := by
  have c2 : ¬ grtS S r i < ptsS S i r := Int32.not_lt.mpr ((grx_cmp ho hr hi h).mp c)
  unfold grxS
  rw [if_neg h, if_neg (by omega)]
  conv => rhs; unfold grtS
  rw [if_neg c2]
def shtS (S : q_St) (x y : Int32) : Bool := isTm S x && isRd y && hasS S (tN x) (tN y)
def nonS (S : q_St) (t r : Nat) : Bool := !hasS S t r && isOp S r
def mayS (S : q_St) (t r : Nat) : Bool := nonS S t r || (hasS S t r && !tldS S t r)
def extS (S : q_St) (t r : Nat) : Int32 := if mayS S t r = true then (if s_jok S t = nI r then 20 else 10) else 0
theorem ext_1 {S : q_St} {K : Nat} (ho : q_ok K S) {t r : Nat} (ht : t < 10) (hr : r < 8) : withJ S t r (gmkS S t r) = ptsS S t r + extS S t r := by
  cases c1 : tldS S t r with
  | true =>
    have c2 := ok_th ho ht hr c1
    have e : extS S t r = 0 := by simp [extS, mayS, nonS, c1, c2]
    have e2 : gmkS S t r = s_mar S (t * 8 + r) := by simp [gmkS, c1]
    rw [e, e2, Int32.add_zero]
    unfold ptsS
    rw [if_neg (tld_iff.mp c1)]
  | false =>
    have d : s_mkr S (t * 8 + r) = -6 := Classical.byContradiction fun q => by rw [tld_iff.mpr q] at c1; cases c1
    have e0 : ptsS S t r = 0 := if_pos d
    rw [e0, Int32.zero_add]
    cases c2 : hasS S t r <;> cases c3 : isOp S r <;> by_cases c4 : s_jok S t = nI r <;> simp [extS, mayS, nonS, gmkS, withJ, c1, c2, c3, c4]
theorem q_acc_add (a : Int32) (f h : Nat → Int32) : ∀ n : Nat, q_acc (q_acc a f n) h n = q_acc a (fun k => f k + h k) n
  | 0 => rfl
  | n + 1 => by
    have ih := q_acc_add a f h n
    have key : ∀ (x b : Int32) (m : Nat), q_acc (x + b) h m = q_acc x h m + b := by
      intro x b m
      induction m with
      | zero => rfl
      | succ m ihm =>
        show q_acc (x + b) h m + h m = q_acc x h m + h m + b
        rw [ihm, Int32.add_assoc, Int32.add_comm b, ← Int32.add_assoc]
    show q_acc (q_acc a f n + f n) h n + h n = q_acc a (fun k => f k + h k) n + (f n + h n)
    rw [key, ih, Int32.add_assoc]
theorem q_acc_congr {a : Int32} {f h : Nat → Int32} : ∀ {n : Nat}, (∀ k, k < n → f k = h k) → q_acc a f n = q_acc a h n
  | 0, _ => rfl
  | n + 1, hk => by
    show q_acc a f n + f n = q_acc a h n + h n
    rw [q_acc_congr fun k h => hk k (by omega), hk n (by omega)]
theorem rea_a {S : q_St} {K : Nat} (ho : q_ok K S) {t : Nat} (ht : t < 10) : q_acc (scoS S t) (extS S t) 8 = q_acc (fineS S t) (fun r => withJ S t r (gmkS S t r)) 8 := by
  unfold scoS
  rw [q_acc_add]
  exact q_acc_congr fun r hr => (ext_1 ho ht hr).symm
theorem cpj_any {S : q_St} {t : Nat} : ∀ n : Nat, q_any (cpj1 S t) n = (decide (s_jok S t = -6) && q_any (nonS S t) n)
  | 0 => by simp [q_any]
  | n + 1 => by
    show (q_any (cpj1 S t) n || cpj1 S t n) = (decide (s_jok S t = -6) && (q_any (nonS S t) n || nonS S t n))
    rw [cpj_any n]
    unfold cpj1 chiS nonS
    cases decide (s_jok S t = -6) <;> cases q_any (fun r => !hasS S t r && isOp S r) n <;> cases hasS S t n <;> cases isOp S n <;> rfl
theorem rea_1 {S : q_St} {K : Nat} (ho : q_ok K S) {t : Nat} (ht : t < 10) (h1 : q_any (nonS S t) 8 = true) (h2 : s_jok S t = -6) : q_acc (scoS S t) (extS S t) 8 + 10 = gscS S t := by
  unfold gscS
  rw [cpj_any, h1, decide_eq_true h2, rea_a ho ht]; rfl
theorem rea_2 {S : q_St} {K : Nat} (ho : q_ok K S) {t : Nat} (ht : t < 10) (h : q_any (nonS S t) 8 = false ∨ ¬ s_jok S t = -6) : q_acc (scoS S t) (extS S t) 8 + 0 = gscS S t := by
  unfold gscS
  rw [cpj_any, rea_a ho ht, Int32.add_zero]
  rcases h with h | h
  · rw [h, Bool.and_false]; rfl
  · rw [decide_eq_false h]; rfl
def wflS (S : q_St) (k : Nat) : Bool := wroS S (k / 8) (k % 8)
theorem wfl_8 (S : q_St) (n : Nat) : ∀ j : Nat, j ≤ 8 → q_cnt (wflS S) (8 * n + j) = q_cnt (wflS S) (8 * n) + q_cnt (wroS S n) j
  | 0, _ => rfl
  | j + 1, h => by
    have e : wflS S (8 * n + j) = wroS S n j := by unfold wflS; rw [show (8 * n + j) / 8 = n from by omega, show (8 * n + j) % 8 = j from by omega]
    show q_cnt (wflS S) (8 * n + j) + (if wflS S (8 * n + j) = true then 1 else 0) = q_cnt (wflS S) (8 * n) + (q_cnt (wroS S n) j + (if wroS S n j = true then 1 else 0))
    rw [wfl_8 S n j (by omega), e, Nat.add_assoc]
theorem wfl_n (S : q_St) : ∀ n : Nat, q_cnt (wflS S) (8 * n) = wroA S n
  | 0 => rfl
  | n + 1 => by
    rw [show 8 * (n + 1) = 8 * n + 8 from by omega, wfl_8 S n 8 (Nat.le_refl 8), wfl_n S n]; rfl
def iflk (S : q_St) (t k : Nat) : Int32 := if wflS S k = true then (if nI (k / 8) = nI t then (if s_jok S t = nI (k % 8) then 2 else 1) * (truM S t (k % 8) - s_mar S (k / 8 * 8 + k % 8)) else 0) - (if s_mkr S (k / 8 * 8 + k % 8) = nI t then s_set S 3 else 0) else 0
theorem i32_a (a b c d e m : Int32) : a + b - c * d + (e - c) = a + (b + e) - c * (d + 1) := by
  rw [Int32.mul_add, Int32.mul_one]
  simp only [Int32.sub_eq_add_neg, Int32.neg_add]
  ac_rfl
theorem i32_b (a b c d e : Int32) : a + b - c * d + (e - 0) = a + (b + e) - c * d := by
  rw [Int32.sub_zero]
  simp only [Int32.sub_eq_add_neg]
  ac_rfl
def silP (S : q_St) (t n j : Nat) : Int32 := if n = t then q_acc 0 (sil1 S t) j else 0
theorem ifl_8 {S : q_St} {t n : Nat} (ht : t < 10) (hn : n < 10) (a : Int32) : ∀ j : Nat, j ≤ 8 → q_acc a (iflk S t) (8 * n + j) = q_acc a (iflk S t) (8 * n) + silP S t n j - s_set S 3 * nI (q_cnt (wmt1 S t n) j)
  | 0, _ => by
    show _ = q_acc a (iflk S t) (8 * n) + silP S t n 0 - s_set S 3 * nI 0
    have e : silP S t n 0 = 0 := by unfold silP; split <;> rfl
    rw [e, Int32.add_zero, show nI 0 = 0 from rfl, Int32.mul_zero, Int32.sub_zero]; rfl
  | j + 1, h => by
    have ih := ifl_8 (S := S) ht hn a j (by omega)
    have d1 : (8 * n + j) / 8 = n := by omega
    have d2 : (8 * n + j) % 8 = j := by omega
    show q_acc a (iflk S t) (8 * n + j) + iflk S t (8 * n + j) = _
    rw [ih]
    have es : silP S t n (j + 1) = silP S t n j + (if n = t then sil1 S t j else 0) := by
      unfold silP
      split
      · rfl
      · rw [Int32.add_zero]
    have ec : q_cnt (wmt1 S t n) (j + 1) = q_cnt (wmt1 S t n) j + (if wmt1 S t n j = true then 1 else 0) := rfl
    rw [es, ec]
    unfold iflk wflS
    rw [d1, d2]
    have en : (nI n = nI t) ↔ n = t := nI_eq (by omega) (by omega)
    cases c1 : wroS S n j with
    | false =>
      have e1 : (if n = t then sil1 S t j else 0) = 0 := by
        split
        · next q => subst q; simp [sil1, c1]
        · rfl
      have e2 : wmt1 S t n j = false := by simp [wmt1, c1]
      rw [e1, e2, if_neg (by decide), if_neg (by decide), Int32.add_zero, Int32.add_zero, Nat.add_zero]
    | true =>
      rw [if_pos rfl]
      have e3 : (if nI n = nI t then (if s_jok S t = nI j then 2 else 1) * (truM S t j - s_mar S (n * 8 + j)) else 0) = (if n = t then sil1 S t j else 0) := by
        by_cases q : n = t
        · subst q
          rw [if_pos rfl, if_pos rfl]
          simp only [sil1, c1, if_true, withJ]
          split
          · rfl
          · rw [Int32.one_mul]
        · rw [if_neg (fun z => q (en.mp z)), if_neg q]
      rw [e3]
      by_cases c2 : s_mkr S (n * 8 + j) = nI t
      · have e2 : wmt1 S t n j = true := by simp [wmt1, c1, c2]
        rw [if_pos c2, e2, if_pos rfl, ← nI_1]
        exact i32_a _ _ _ _ _ 0
      · have e2 : wmt1 S t n j = false := by simp [wmt1, c1, c2]
        have e4 : (if false = true then (1 : Nat) else 0) = 0 := rfl
        rw [if_neg c2, e2, e4, Nat.add_zero]
        exact i32_b _ _ _ _ _
theorem ifl_n {S : q_St} {t : Nat} (ht : t < 10) (a : Int32) : ∀ n : Nat, n ≤ 10 → q_acc a (iflk S t) (8 * n) = a + (if t < n then q_acc 0 (sil1 S t) 8 else 0) - s_set S 3 * nI (wmtA S t n)
  | 0, _ => by
    show a = a + (if t < 0 then q_acc 0 (sil1 S t) 8 else 0) - s_set S 3 * nI 0
    rw [if_neg (by omega), Int32.add_zero, show nI 0 = 0 from rfl, Int32.mul_zero, Int32.sub_zero]
  | n + 1, h => by
    rw [show 8 * (n + 1) = 8 * n + 8 from by omega, ifl_8 ht (by omega) a 8 (Nat.le_refl 8), ifl_n ht a n (by omega)]
    have e1 : wmtA S t (n + 1) = wmtA S t n + q_cnt (wmt1 S t n) 8 := rfl
    rw [e1, ← nI_add, Int32.mul_add]
    have e2 : (if t < n + 1 then q_acc 0 (sil1 S t) 8 else 0) = (if t < n then q_acc 0 (sil1 S t) 8 else 0) + silP S t n 8 := by
      unfold silP
      by_cases c : t < n
      · rw [if_pos c, if_pos (by omega), if_neg (by omega), Int32.add_zero]
      · by_cases d : n = t
        · rw [if_neg c, if_pos (by omega), if_pos d, Int32.zero_add]
        · rw [if_neg c, if_neg (by omega), if_neg d, Int32.add_zero]
    rw [e2]
    simp only [Int32.sub_eq_add_neg, Int32.neg_add]
    ac_rfl
theorem q_acc_0 (a : Int32) (f : Nat → Int32) : ∀ n : Nat, q_acc a f n = a + q_acc 0 f n
  | 0 => (Int32.add_zero a).symm
  | n + 1 => by
    show q_acc a f n + f n = a + (q_acc 0 f n + f n)
    rw [q_acc_0 a f n, Int32.add_assoc]
theorem ifl_all {S : q_St} {t : Nat} (ht : t < s_n S) (hn : s_n S ≤ 10) : q_acc (scoS S t) (iflk S t) (8 * s_n S) = silS S t := by
  rw [ifl_n (by omega) _ _ hn, if_pos ht]
  unfold silS
  rw [q_acc_0 (scoS S t - s_set S 3 * nI (wmtA S t (s_n S)))]
  simp only [Int32.sub_eq_add_neg]
  ac_rfl
def lasF (S : q_St) (x : Int32) : Nat → Int32
  | 0 => -1
  | n + 1 => if plcS S n = x then nI n else lasF S x n
theorem ten_s1 {C : Nat → Int32} {n i : Nat} {bd : Bool} (h : n = 10) (h2 : q_any (fun k => !ten1 C bd k) i = false) (h3 : ten1 C bd i = true) : (decide (n = 10) && !q_any (fun k => !ten1 C bd k) (i + 1)) = true := by
  show (decide (n = 10) && !(q_any (fun k => !ten1 C bd k) i || !ten1 C bd i)) = true
  rw [h2, h3, decide_eq_true h]; rfl
theorem ten_s0 {C : Nat → Int32} {n i : Nat} {bd : Bool} (h : n = 10) (h2 : q_any (fun k => !ten1 C bd k) i = false) (h3 : ten1 C bd i = false) : (decide (n = 10) && !q_any (fun k => !ten1 C bd k) (i + 1)) = false := by
  show (decide (n = 10) && !(q_any (fun k => !ten1 C bd k) i || !ten1 C bd i)) = false
  rw [h2, h3, decide_eq_true h]; rfl
