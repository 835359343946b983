/-! what holds of every state that the class comes to: from whole's parts 41 to 62 -/
def jkI (x : Int32) : Int32 := if x = -6 then 0 else x + 1
def jm (x : Int32) : Int32 := if x = -6 then -1 else x
def anI (x : Int32) : Int32 := if x = 15 then -1 else x
/-- what holds of every state that the class comes to; K bounds the fines -/
def q_ok (K : Nat) (S : q_St) : Prop :=
  s_n S ≤ 10 ∧ (∀ t, t < 10 → ∃ j, j ≤ K ∧ s_fin S t = nI j) ∧
  (∀ t r, t < 10 → r < 8 → tldS S t r = true → (∃ m, m < s_n S ∧ s_mkr S (t * 8 + r) = nI m) ∧ hasS S t r = true ∧ isOp S r = false ∧ -20 ≤ (s_mar S (t * 8 + r)).toInt ∧ (s_mar S (t * 8 + r)).toInt ≤ 10) ∧
  (∀ t r, t < 10 → r < 8 → lokS S t r = true → tldS S t r = true) ∧ (∀ r, r < 8 → s_loo S r = q_or (fun t => lokS S t r) (s_n S)) ∧
  (∀ t, t < 10 → s_jok S t = -6 ∨ ∃ r, r < 8 ∧ s_jok S t = nI r) ∧ (∀ t, t < 10 → s_gue S t = -6 ∨ ∃ v, v ≤ 9999 ∧ s_gue S t = nI v) ∧ (s_tru S = -6 ∨ ∃ v, v ≤ 9999 ∧ s_tru S = nI v) ∧
  (∃ v, v ≤ 2 ∧ s_set S 2 = nI v) ∧ (∃ v, v ≤ 9 ∧ s_set S 3 = nI v) ∧
  (∀ r, r < 8 → isOp S r = false → ∀ k, k < 10 → ∃ d, d ≤ 9 ∧ sgn (s_key S r) k = nI d) ∧ (∀ t r, t < 10 → r < 8 → hasS S t r = true → ∀ k, k < 10 → sgn (s_she S (t * 8 + r)) k = 15 ∨ ∃ d, d ≤ 9 ∧ sgn (s_she S (t * 8 + r)) k = nI d) ∧
  (∀ t, s_n S ≤ t → t < 10 → ∀ r, r < 8 → hasS S t r = false)
theorem ok_n {S : q_St} {K : Nat} (ho : q_ok K S) : s_n S ≤ 10 := ho.1
theorem ok_fin {S : q_St} {K : Nat} (ho : q_ok K S) {t : Nat} (ht : t < 10) : ∃ j, j ≤ K ∧ s_fin S t = nI j := ho.2.1 t ht
theorem ok_mk {S : q_St} {K : Nat} (ho : q_ok K S) {t r : Nat} (ht : t < 10) (hr : r < 8) (h : tldS S t r = true) : ∃ m, m < s_n S ∧ s_mkr S (t * 8 + r) = nI m := (ho.2.2.1 t r ht hr h).1
theorem ok_th {S : q_St} {K : Nat} (ho : q_ok K S) {t r : Nat} (ht : t < 10) (hr : r < 8) (h : tldS S t r = true) : hasS S t r = true := (ho.2.2.1 t r ht hr h).2.1
theorem ok_to {S : q_St} {K : Nat} (ho : q_ok K S) {t r : Nat} (ht : t < 10) (hr : r < 8) (h : tldS S t r = true) : isOp S r = false := (ho.2.2.1 t r ht hr h).2.2.1
theorem ok_mr {S : q_St} {K : Nat} (ho : q_ok K S) {t r : Nat} (ht : t < 10) (hr : r < 8) (h : tldS S t r = true) : -20 ≤ (s_mar S (t * 8 + r)).toInt ∧ (s_mar S (t * 8 + r)).toInt ≤ 10 := (ho.2.2.1 t r ht hr h).2.2.2
theorem ok_lt {S : q_St} {K : Nat} (ho : q_ok K S) {t r : Nat} (ht : t < 10) (hr : r < 8) (h : lokS S t r = true) : tldS S t r = true := ho.2.2.2.1 t r ht hr h
theorem ok_loo {S : q_St} {K : Nat} (ho : q_ok K S) {r : Nat} (hr : r < 8) : s_loo S r = q_or (fun t => lokS S t r) (s_n S) := ho.2.2.2.2.1 r hr
theorem ok_jok {S : q_St} {K : Nat} (ho : q_ok K S) {t : Nat} (ht : t < 10) : s_jok S t = -6 ∨ ∃ r, r < 8 ∧ s_jok S t = nI r := ho.2.2.2.2.2.1 t ht
theorem ok_gue {S : q_St} {K : Nat} (ho : q_ok K S) {t : Nat} (ht : t < 10) : s_gue S t = -6 ∨ ∃ v, v ≤ 9999 ∧ s_gue S t = nI v := ho.2.2.2.2.2.2.1 t ht
theorem ok_tru {S : q_St} {K : Nat} (ho : q_ok K S) : s_tru S = -6 ∨ ∃ v, v ≤ 9999 ∧ s_tru S = nI v := ho.2.2.2.2.2.2.2.1
theorem ok_s2 {S : q_St} {K : Nat} (ho : q_ok K S) : ∃ v, v ≤ 2 ∧ s_set S 2 = nI v := ho.2.2.2.2.2.2.2.2.1
theorem ok_s3 {S : q_St} {K : Nat} (ho : q_ok K S) : ∃ v, v ≤ 9 ∧ s_set S 3 = nI v := ho.2.2.2.2.2.2.2.2.2.1
theorem ok_key {S : q_St} {K : Nat} (ho : q_ok K S) {r k : Nat} (hr : r < 8) (h : isOp S r = false) (hk : k < 10) : ∃ d, d ≤ 9 ∧ sgn (s_key S r) k = nI d := ho.2.2.2.2.2.2.2.2.2.2.1 r hr h k hk
theorem ok_she {S : q_St} {K : Nat} (ho : q_ok K S) {t r k : Nat} (ht : t < 10) (hr : r < 8) (h : hasS S t r = true) (hk : k < 10) : sgn (s_she S (t * 8 + r)) k = 15 ∨ ∃ d, d ≤ 9 ∧ sgn (s_she S (t * 8 + r)) k = nI d := ho.2.2.2.2.2.2.2.2.2.2.2.1 t r ht hr h k hk
theorem ok_out {S : q_St} {K : Nat} (ho : q_ok K S) {t r : Nat} (h : s_n S ≤ t) (ht : t < 10) (hr : r < 8) : hasS S t r = false := ho.2.2.2.2.2.2.2.2.2.2.2.2 t h ht r hr
theorem ok_ntl {S : q_St} {K : Nat} (ho : q_ok K S) {t r : Nat} (ht : t < 10) (hr : r < 8) (h : hasS S t r = false) : tldS S t r = false := by
  cases c : tldS S t r with
  | false => rfl
  | true => rw [ok_th ho ht hr c] at h; cases h
theorem bI_e1 {b : Bool} (h : bI b = 1) : b = true := by cases b with | true => rfl | false => exact absurd h (by decide)
theorem bI_n1 {b : Bool} (h : ¬ bI b = 1) : b = false := by cases b with | false => rfl | true => exact absurd rfl h
theorem nI_6 {v : Nat} (h : v < 2 ^ 30) : ¬ nI v = -6 := fun q => by
  have := congrArg Int32.toInt q
  rw [nI_toInt (by omega)] at this
  have e : (-6 : Int32).toInt = -6 := by decide
  rw [e] at this; omega
theorem jk_t {x : Int32} {r : Nat} (hx : x = -6 ∨ ∃ r, r < 8 ∧ x = nI r) (hr : r < 8) (h : jkI x = nI (r + 1)) : x = nI r := by
  rcases hx with rfl | ⟨v, hv, rfl⟩
  · exact absurd h (fun q => nI_ne0 (n := r + 1) (by omega) (by omega) q.symm)
  · unfold jkI at h
    rw [if_neg (nI_6 (by omega)), nI_1, nI_eq (by omega) (by omega)] at h
    rw [show v = r from by omega]
theorem jk_f {x : Int32} {r : Nat} (hr : r < 8) (h : ¬ jkI x = nI (r + 1)) : ¬ x = nI r := by
  rintro rfl
  refine h ?_
  unfold jkI
  rw [if_neg (nI_6 (by omega)), nI_1]
theorem jk_0 {x : Int32} (hx : x = -6 ∨ ∃ r, r ≤ 9999 ∧ x = nI r) (h : jkI x = 0) : x = -6 := by
  rcases hx with rfl | ⟨v, hv, rfl⟩
  · rfl
  · unfold jkI at h
    rw [if_neg (nI_6 (by omega)), nI_1] at h
    exact absurd h (nI_ne0 (by omega) (by omega))
theorem jk_n0 {x : Int32} (h : ¬ jkI x = 0) : ¬ x = -6 := by rintro rfl; exact h rfl
theorem jk_p {x : Int32} (hx : x = -6 ∨ ∃ r, r ≤ 9999 ∧ x = nI r) (h : ¬ x = -6) : 0 < jkI x := by
  rcases hx with rfl | ⟨v, hv, rfl⟩
  · exact absurd rfl h
  · unfold jkI
    rw [if_neg h, nI_1]
    exact nI_lt (a := 0) (by omega) (by omega)
theorem jk_wk {x : Int32} (hx : x = -6 ∨ ∃ r, r < 8 ∧ x = nI r) : x = -6 ∨ ∃ r, r ≤ 9999 ∧ x = nI r := hx.imp id fun ⟨r, h, e⟩ => ⟨r, by omega, e⟩
theorem jk_m (x : Int32) : jkI x - 1 = jm x := by
  unfold jkI jm
  by_cases h : x = -6
  · rw [if_pos h, if_pos h]; decide
  · rw [if_neg h, if_neg h, Int32.add_sub_cancel]
theorem jm_n {x : Int32} (h : ¬ x = -6) : jm x = x := if_neg h
theorem jm_lt {x : Int32} (hx : x = -6 ∨ ∃ r, r ≤ 9999 ∧ x = nI r) (h : ¬ 0 ≤ jm x) : x = -6 := by
  rcases hx with rfl | ⟨v, hv, rfl⟩
  · rfl
  · rw [jm_n (nI_6 (by omega))] at h
    exact absurd (nI_pos' (by omega)) h
theorem jm_ge {x : Int32} (h : 0 ≤ jm x) : ¬ x = -6 := by rintro rfl; exact absurd h (by decide)
theorem an_ge {x : Int32} (hx : x = 15 ∨ ∃ d, d ≤ 9 ∧ x = nI d) (h : 0 ≤ anI x) : ¬ x = 15 ∧ anI x = x := by
  rcases hx with rfl | ⟨v, hv, rfl⟩
  · exact absurd h (by decide)
  · have e : ¬ nI v = 15 := fun q => by have := (nI_eq (a := v) (b := 15) (by omega) (by decide)).mp q; omega
    exact ⟨e, if_neg e⟩
theorem an_lt {x : Int32} (hx : x = 15 ∨ ∃ d, d ≤ 9 ∧ x = nI d) (h : ¬ 0 ≤ anI x) : x = 15 := by
  rcases hx with rfl | ⟨v, hv, rfl⟩
  · rfl
  · have e : ¬ nI v = 15 := fun q => by have := (nI_eq (a := v) (b := 15) (by omega) (by decide)).mp q; omega
    rw [show anI (nI v) = nI v from if_neg e] at h
    exact absurd (nI_pos' (by omega)) h
def inR (v lo hi : Int32) : Bool := !decide (v < lo) && !decide (hi < v)
theorem inTm {S : q_St} {x : Int32} (hn : s_n S ≤ 10) : inR x 0 (nI (s_n S) - 1) = isTm S x := by
  unfold inR isTm
  by_cases h : x < 0
  · rw [decide_eq_true h]; rfl
  · obtain ⟨v, hv, rfl⟩ := nI_of h
    rw [decide_eq_false h]
    show (true && !decide (nI (s_n S) - 1 < nI v)) = (true && !decide (nI (s_n S) ≤ nI v) && !decide (nI 10 ≤ nI v))
    have e1 : (nI (s_n S) - 1 < nI v) ↔ s_n S ≤ v := by
      rcases Nat.eq_zero_or_pos (s_n S) with z | z
      · rw [z]
        exact ⟨fun _ => Nat.zero_le v, fun _ => Int32.lt_of_lt_of_le (b := 0) (by decide) (nI_pos' hv)⟩
      · rw [show nI (s_n S) - 1 = nI (s_n S - 1) from pk_sub (b := 1) z, nI_ltI (by omega) hv]
        omega
    have e2 : (nI (s_n S) ≤ nI v) ↔ s_n S ≤ v := nI_leI (by omega) hv
    have e3 : (nI 10 ≤ nI v) ↔ 10 ≤ v := nI_leI (by decide) hv
    simp only [e1, e2, e3]
    by_cases k : s_n S ≤ v
    · simp [k]
    · simp [k]; omega
theorem inRd (x : Int32) : inR x 0 7 = isRd x := by
  unfold inR isRd
  by_cases h : x < 0
  · rw [decide_eq_true h]; rfl
  · obtain ⟨v, hv, rfl⟩ := nI_of h
    rw [decide_eq_false h]
    have e1 : ((7 : Int32) < nI v) ↔ 7 < v := nI_ltI (a := 7) (by decide) hv
    have e2 : ((8 : Int32) ≤ nI v) ↔ 8 ≤ v := nI_leI (a := 8) (by decide) hv
    simp only [e1, e2]
    by_cases k : 7 < v
    · simp [k]; omega
    · simp [k]; omega
theorem inSl (x : Int32) : inR x 0 1 = isSl x := by
  unfold inR isSl
  by_cases h : x < 0
  · rw [decide_eq_true h]; rfl
  · obtain ⟨v, hv, rfl⟩ := nI_of h
    rw [decide_eq_false h]
    have e1 : ((1 : Int32) < nI v) ↔ 1 < v := nI_ltI (a := 1) (by decide) hv
    have e2 : ((2 : Int32) ≤ nI v) ↔ 2 ≤ v := nI_leI (a := 2) (by decide) hv
    simp only [e1, e2]
    by_cases k : 1 < v
    · simp [k]; omega
    · simp [k]; omega
def mkvS (S : q_St) (t r : Nat) : Int32 := if tldS S t r = true then s_mar S (t * 8 + r) else 0
theorem tld_iff {S : q_St} {t r : Nat} : tldS S t r = true ↔ ¬ s_mkr S (t * 8 + r) = -6 := by unfold tldS; exact decide_eq_true_iff
theorem pts_2 {S : q_St} {t r : Nat} (h : s_jok S t = nI r) : mkvS S t r * 2 = ptsS S t r := by
  unfold mkvS ptsS withJ
  by_cases c : tldS S t r = true
  · rw [if_pos c, if_neg (tld_iff.mp c), if_pos h, Int32.mul_comm]
  · have d : s_mkr S (t * 8 + r) = -6 := Classical.byContradiction fun q => c (tld_iff.mpr q)
    rw [if_neg c, if_pos d]; decide
theorem pts_1 {S : q_St} {t r : Nat} (h : ¬ s_jok S t = nI r) : mkvS S t r * 1 = ptsS S t r := by
  unfold mkvS ptsS withJ
  by_cases c : tldS S t r = true
  · rw [if_pos c, if_neg (tld_iff.mp c), if_neg h, Int32.mul_one]
  · have d : s_mkr S (t * 8 + r) = -6 := Classical.byContradiction fun q => c (tld_iff.mpr q)
    rw [if_neg c, if_pos d]; decide
def bitI (x : Int32) : Int32 := q_acc 0 (fun k => (x >>> (nI k &&& 31)) &&& 1) 10
theorem q_bitb : ∀ n : Fin 10, ∀ m : Fin (2 ^ n.val), bitI (nI (m.val + 2 ^ n.val)) = bitI (nI m.val) + 1 := by decide +kernel
theorem q_bitN (f : Nat → Bool) : ∀ n : Nat, n ≤ 10 → bitI (q_or f n) = nI (q_cnt f n)
  | 0, _ => by show bitI 0 = 0; decide
  | n + 1, h => by
    have ih := q_bitN f n (by omega)
    obtain ⟨m, h1, h2, -⟩ := q_orN f n (by omega)
    by_cases c : f n = true
    · have b1 := (q_bits ⟨n, by omega⟩ ⟨m, h1⟩).1
      have b2 := q_bitb ⟨n, by omega⟩ ⟨m, h1⟩
      have e : q_or f (n + 1) = nI (m + 2 ^ n) := by simp only [q_or, c, if_true, h2]; exact b1
      rw [e, show bitI (nI (m + 2 ^ n)) = bitI (nI m) + 1 from b2, ← h2, ih, nI_1]
      simp [q_cnt, c]
    · have e : q_or f (n + 1) = q_or f n := by simp [q_or, c]
      rw [e, ih]; simp [q_cnt, c]
theorem q_bitL (f : Nat → Bool) (t n : Nat) (h1 : t ≤ n) (ht : t < 10) (h2 : n ≤ 10) : bitI (lowM (q_or f n) t) = nI (q_cnt f t) := by
  rw [q_lowN f t ht n h1 h2, q_bitN f t (by omega)]
def farS (S : q_St) (t : Nat) : Int32 := if s_gue S t = -6 then 100000 else if s_tru S < s_gue S t then s_gue S t - s_tru S else s_tru S - s_gue S t
def tem1 (S : q_St) (r : Nat) (w : Int32) (t : Nat) : Bool := if w = 2 then decide (s_jok S t = nI r) else if w = 1 then hasS S t r else if w = 3 then tldS S t r else lokS S t r
def rds1 (S : q_St) (t : Nat) (w : Int32) (r : Nat) : Bool := if w = 6 then hasS S t r else tldS S t r
/-! ranges of scores -/
def rgI (x : Int32) (a b : Int) : Prop := a ≤ x.toInt ∧ x.toInt ≤ b
theorem rg_add {x y : Int32} {a b c d : Int} (h1 : rgI x a b) (h2 : rgI y c d) (hl : -2147483648 ≤ a + c) (hu : b + d ≤ 2147483647) : rgI (x + y) (a + c) (b + d) ∧ (x + y).toInt = x.toInt + y.toInt := by
  obtain ⟨p1, p2⟩ := h1
  obtain ⟨p3, p4⟩ := h2
  have e : (x + y).toInt = x.toInt + y.toInt := by
    rw [Int32.toInt_add]
    exact Int.bmod_eq_of_le (by omega) (by omega)
  exact ⟨⟨by omega, by omega⟩, e⟩
theorem rg_sub {x y : Int32} {a b c d : Int} (h1 : rgI x a b) (h2 : rgI y c d) (hl : -2147483648 ≤ a - d) (hu : b - c ≤ 2147483647) : (x - y).toInt = x.toInt - y.toInt := by
  obtain ⟨p1, p2⟩ := h1
  obtain ⟨p3, p4⟩ := h2
  rw [Int32.toInt_sub]
  exact Int.bmod_eq_of_le (by omega) (by omega)
theorem rg_acc {a : Int32} {f : Nat → Int32} {lo hi l h : Int} (ha : rgI a lo hi) (hl0 : l ≤ 0) (hh0 : 0 ≤ h) : ∀ n : Nat, (∀ k, k < n → rgI (f k) l h) → -2147483648 ≤ lo + l * n → hi + h * n ≤ 2147483647 → rgI (q_acc a f n) (lo + l * n) (hi + h * n)
  | 0, _, _, _ => by simpa [q_acc] using ha
  | n + 1, hf, h1, h2 => by
    have e1 : l * ((n + 1 : Nat) : Int) = l * n + l := by rw [Int.natCast_succ, Int.mul_add, Int.mul_one]
    have e2 : h * ((n + 1 : Nat) : Int) = h * n + h := by rw [Int.natCast_succ, Int.mul_add, Int.mul_one]
    rw [e1] at h1 ⊢
    rw [e2] at h2 ⊢
    have ih := rg_acc (f := f) ha hl0 hh0 n (fun k hk => hf k (by omega)) (by omega) (by omega)
    have := (rg_add ih (hf n (by omega)) (by omega) (by omega)).1
    show rgI (q_acc a f n + f n) _ _
    exact ⟨by have := this.1; omega, by have := this.2; omega⟩
theorem rg_2 {x : Int32} {a b : Int} (h : rgI x a b) (h1 : -1000000000 ≤ a) (h2 : b ≤ 1000000000) : rgI (2 * x) (2 * a) (2 * b) := by
  have e : 2 * x = x + x := by
    have : (2 : Int32) = 1 + 1 := by decide
    rw [this, Int32.add_mul, Int32.one_mul]
  rw [e]
  have := (rg_add h h (by omega) (by omega)).1
  exact ⟨by have := this.1; omega, by have := this.2; omega⟩
theorem rg_nI {n : Nat} (h : n < 2 ^ 31) {b : Int} (hb : (n : Int) ≤ b) : rgI (nI n) 0 b := by
  unfold rgI
  rw [nI_toInt h]
  omega
theorem rg_fine {S : q_St} {K : Nat} (ho : q_ok K S) (hK : K ≤ 512) {t : Nat} (ht : t < 10) : rgI (fineS S t) (-4608) 0 := by
  obtain ⟨v, hv, e1⟩ := ok_s3 ho
  obtain ⟨j, hj, e2⟩ := ok_fin ho ht
  unfold fineS
  rw [e1, e2, Int32.neg_mul, pk_mul]
  have h : v * j ≤ 9 * 512 := Nat.mul_le_mul hv (by omega)
  have e3 : (-nI (v * j)).toInt = -((v * j : Nat) : Int) := sb_negT (by omega)
  unfold rgI
  rw [e3]
  omega
theorem rg_pts {S : q_St} {K : Nat} (ho : q_ok K S) {t r : Nat} (ht : t < 10) (hr : r < 8) : rgI (ptsS S t r) (-40) 20 := by
  unfold ptsS withJ
  split
  · exact ⟨by decide, by decide⟩
  · next c =>
    have h := ok_mr ho ht hr (tld_iff.mpr c)
    split
    · exact rg_2 (a := -20) (b := 10) h (by decide) (by decide)
    · exact ⟨by have := h.1; omega, by have := h.2; omega⟩
theorem rg_sco {S : q_St} {K : Nat} (ho : q_ok K S) (hK : K ≤ 512) {t : Nat} (ht : t < 10) : rgI (scoS S t) (-4928) 160 :=
  rg_acc (l := -40) (h := 20) (rg_fine ho hK ht) (by decide) (by decide) 8 (fun _ hk => rg_pts ho ht hk) (by decide) (by decide)
theorem ahe_pos {S : q_St} {K : Nat} (ho : q_ok K S) (hK : K ≤ 512) {t o : Nat} (ht : t < 10) (h2 : o < 10) : (0 < scoS S t - scoS S o ↔ scoS S o < scoS S t) ∧ (scoS S t - scoS S o = 0 ↔ scoS S t = scoS S o) := by
  have e := rg_sub (rg_sco ho hK ht) (rg_sco ho hK h2) (by decide) (by decide)
  constructor
  · rw [Int32.lt_iff_toInt_lt, Int32.lt_iff_toInt_lt, e, show (0 : Int32).toInt = 0 from by decide]; omega
  · rw [← Int32.toInt_inj, ← Int32.toInt_inj, e, show (0 : Int32).toInt = 0 from by decide]; omega
theorem ahe_1 {S : q_St} {K : Nat} (ho : q_ok K S) (hK : K ≤ 512) {t o : Nat} (ht : t < 10) (h2 : o < 10) (h : scoS S o < scoS S t) : aheS S t o = true := by
  unfold aheS
  rw [decide_eq_true ((ahe_pos ho hK ht h2).1.mpr h)]; rfl
theorem ahe_2 {S : q_St} {K : Nat} (ho : q_ok K S) (hK : K ≤ 512) {t o : Nat} (ht : t < 10) (h2 : o < 10) (h : ¬ scoS S o < scoS S t) (h1 : ¬ scoS S t = scoS S o) : aheS S t o = false := by
  unfold aheS
  rw [decide_eq_false (fun q => h ((ahe_pos ho hK ht h2).1.mp q)), decide_eq_false (fun q => h1 ((ahe_pos ho hK ht h2).2.mp q))]; rfl
theorem ahe_3 {S : q_St} {K : Nat} (ho : q_ok K S) (hK : K ≤ 512) {t o : Nat} (ht : t < 10) (h2 : o < 10) (h : ¬ scoS S o < scoS S t) (h1 : scoS S t = scoS S o) : aheS S t o = !decide (distS S o ≤ distS S t) := by
  unfold aheS
  rw [decide_eq_false (fun q => h ((ahe_pos ho hK ht h2).1.mp q)), decide_eq_true ((ahe_pos ho hK ht h2).2.mpr h1)]; rfl
theorem dist_n {S : q_St} (h : s_tru S = -6) (t : Nat) : distS S t = 10000 := if_pos h
theorem dist_far {S : q_St} {K : Nat} (ho : q_ok K S) (h : ¬ s_tru S = -6) {t : Nat} (ht : t < 10) : (∃ v, v ≤ 9999 ∧ distS S t = nI v ∧ farS S t = nI v) ∨ (distS S t = 10000 ∧ farS S t = 100000) := by
  rcases ok_tru ho with e | ⟨u, hu, e⟩
  · exact absurd e h
  · rcases ok_gue ho ht with e2 | ⟨v, hv, e2⟩
    · right
      unfold distS farS
      rw [if_neg h, if_pos e2, if_pos e2]
      exact ⟨rfl, rfl⟩
    · left
      have n6 : ¬ s_gue S t = -6 := by rw [e2]; exact nI_6 (by omega)
      unfold distS farS
      rw [if_neg h, if_neg n6, if_neg n6, e, e2]
      rcases Nat.lt_or_ge u v with c | c
      · refine ⟨v - u, by omega, ?_, ?_⟩
        · rw [pk_sub (by omega), if_pos (nI_pos' (by omega))]
        · rw [if_pos (nI_lt c (by omega)), pk_sub (by omega)]
      · refine ⟨u - v, by omega, ?_, ?_⟩
        · rcases Nat.eq_or_lt_of_le c with d | d
          · subst d; rw [pk_sub (Nat.le_refl _), Nat.sub_self]; decide
          · rw [if_neg (Int32.not_le.mpr (pk_sneg (by omega) d)), show (0 : Int32) = nI 0 from rfl]
            refine Int32.toInt_inj.mp ?_
            have h1 : (nI v - nI u).toInt = (v : Int) - u := pk_sub_toInt (by omega) (by omega)
            have h2 : (nI 0 - (nI v - nI u)).toInt = (nI 0).toInt - (nI v - nI u).toInt := rg_sub (a := 0) (b := 0) (c := -10000) (d := 10000) (by unfold rgI; decide) (by unfold rgI; omega) (by decide) (by decide)
            rw [h2, h1, nI_toInt (by omega), nI_toInt (by omega)]
            omega
        · rw [if_neg (nI_nlt c (by omega)), pk_sub c]
theorem dist_lt {S : q_St} {K : Nat} (ho : q_ok K S) (h : ¬ s_tru S = -6) {t o : Nat} (ht : t < 10) (h2 : o < 10) : farS S o ≤ farS S t ↔ distS S o ≤ distS S t := by
  rcases dist_far ho h ht with ⟨v, hv, e1, e2⟩ | ⟨e1, e2⟩ <;> rcases dist_far ho h h2 with ⟨u, hu, e3, e4⟩ | ⟨e3, e4⟩
  · rw [e1, e2, e3, e4]
  · rw [e1, e2, e3, e4, show (100000 : Int32) = nI 100000 from rfl, show (10000 : Int32) = nI 10000 from rfl, nI_leI (by decide) (by omega), nI_leI (by decide) (by omega)]; omega
  · rw [e1, e2, e3, e4, show (100000 : Int32) = nI 100000 from rfl, show (10000 : Int32) = nI 10000 from rfl, nI_leI (by omega) (by decide), nI_leI (by omega) (by decide)]; omega
  · rw [e1, e2, e3, e4]; exact ⟨fun _ => Int32.le_refl _, fun _ => Int32.le_refl _⟩
/-! more of the reference, in numbers -/
def ten1 (C : Nat → Int32) (bd : Bool) (k : Nat) : Bool := isDg (C k) || (!bd && decide (C k = 45))
def tenP (C : Nat → Int32) (n : Nat) (bd : Bool) : Bool := decide (n = 10) && !q_any (fun k => !ten1 C bd k) 10
theorem q_any_mono {f : Nat → Bool} {i n : Nat} (hi : i ≤ n) (h : q_any f i = true) : q_any f n = true := by
  induction n with
  | zero => have e : i = 0 := by omega
            subst e; exact h
  | succ n ih =>
    rcases Nat.lt_or_ge i (n + 1) with c | c
    · show (q_any f n || f n) = true
      rw [ih (by omega)]; rfl
    · have e : i = n + 1 := by omega
      subst e; exact h
theorem q_any_f {f : Nat → Bool} {n : Nat} (h : ∀ k, k < n → f k = false) : q_any f n = false := by
  induction n with
  | zero => rfl
  | succ n ih =>
    show (q_any f n || f n) = false
    rw [ih (fun k hk => h k (by omega)), h n (by omega)]; rfl
theorem q_any_at {f : Nat → Bool} {n : Nat} (h : q_any f n = false) {k : Nat} (hk : k < n) : f k = false := by
  cases c : f k with
  | false => rfl
  | true => rw [q_any_t hk c] at h; cases h
theorem ten_e {C : Nat → Int32} {n i : Nat} {bd : Bool} (hi : i ≤ 10) (h : (decide (n = 10) && !q_any (fun k => !ten1 C bd k) i) = false) : tenP C n bd = false := by
  unfold tenP
  cases c : decide (n = 10) with
  | false => rfl
  | true =>
    rw [c] at h
    have h2 : q_any (fun k => !ten1 C bd k) i = true := by simpa using h
    rw [q_any_mono hi h2]; rfl
theorem lead_all {f : Nat → Bool} {n : Nat} (h : lead f n = n) : ∀ k, k < n → f k = true := by
  induction n with
  | zero => intro k hk; omega
  | succ n ih =>
    unfold lead at h
    split at h
    · next c =>
      intro k hk
      rcases Nat.lt_or_ge k n with d | d
      · exact ih c.1 k d
      · have e : k = n := by omega
        subst e; exact c.2
    · have := lead_le f n
      omega
theorem lead_of {f : Nat → Bool} : ∀ {n : Nat}, (∀ k, k < n → f k = true) → lead f n = n
  | 0, _ => rfl
  | n + 1, h => lead_s (lead_of fun k hk => h k (by omega)) (h n (by omega))
theorem fau_iff {C : Nat → Int32} {n : Nat} : fauI C n = -6 ↔ n = 10 ∧ ∀ k, k < 10 → isSg (C k) = true := by
  unfold fauI
  constructor
  · intro h
    split at h
    · next c =>
      refine ⟨c.2, fun k hk => ?_⟩
      have := lead_all (c.1.trans c.2.symm) k (by omega)
      simp only [pdf, Bool.and_eq_true] at this
      exact this.2
    · exact absurd h (nI_6 (by
        next c =>
        rcases Nat.lt_or_ge (lead (pdf C) n) 20 with q | q
        · omega
        · have h0 := lead_le (pdf C) n
          have h1 : ∀ m, lead (pdf C) m ≤ 10 := by
            intro m
            induction m with
            | zero => show 0 ≤ 10; omega
            | succ m ih =>
              unfold lead
              split
              · next c2 =>
                have := c2.2
                simp [pdf] at this
                omega
              · exact ih
          have := h1 n
          omega))
  · rintro ⟨rfl, h⟩
    rw [if_pos]
    refine ⟨lead_of fun k hk => ?_, rfl⟩
    simp only [pdf, h k hk, decide_eq_true hk]; rfl
theorem ten_f {C : Nat → Int32} {n : Nat} : tenP C n false = tshP C n := by
  unfold tenP tshP
  by_cases h : n = 10
  · subst h
    rw [decide_eq_true (rfl : (10 : Nat) = 10), Bool.true_and]
    have e : (fun k => !ten1 C false k) = fun k => !isSg (C k) := by
      funext k; simp [ten1, isSg, Bool.or_comm]
    rw [e]
    by_cases q : ∀ k, k < 10 → isSg (C k) = true
    · rw [q_any_f (fun k hk => by rw [q k hk]; rfl), decide_eq_true (fau_iff.mpr ⟨rfl, q⟩)]; rfl
    · rw [decide_eq_false (fun z => q (fau_iff.mp z).2)]
      cases c : q_any (fun k => !isSg (C k)) 10 with
      | true => rfl
      | false => exact absurd (fun k hk => by simpa using q_any_at c hk) q
  · rw [decide_eq_false h, decide_eq_false (fun z => h (fau_iff.mp z).1)]; rfl
theorem ten_t {C : Nat → Int32} {n : Nat} : tenP C n true = tkyP C n := by
  unfold tkyP
  rw [← ten_f]
  unfold tenP
  by_cases h : n = 10
  · subst h
    rw [decide_eq_true (rfl : (10 : Nat) = 10), Bool.true_and, Bool.true_and]
    have e : (fun k => !ten1 C true k) = fun k => !isDg (C k) := by
      funext k; simp [ten1]
    rw [e]
    cases c : q_any (fun k => !isDg (C k)) 10 with
    | true => simp
    | false =>
      rw [q_any_f (fun k hk => by have := q_any_at c hk; simp only [ten1]; simp at this; rw [this]; rfl)]
      rfl
  · rw [decide_eq_false h]; rfl
def grxS (S : q_St) (r n : Nat) : Int32 := if n = 0 then -6 else grtS S r n + 100
theorem grt_rg {S : q_St} {K : Nat} (ho : q_ok K S) {r : Nat} (hr : r < 8) : ∀ n : Nat, n ≤ 10 → rgI (grtS S r n) (-40) 20
  | 0, _ => rg_pts ho (by decide) hr
  | n + 1, h => by
    unfold grtS
    split
    · exact rg_pts ho (by omega) hr
    · exact grt_rg ho hr n (by omega)
theorem grt_1 (S : q_St) (r : Nat) : grtS S r 1 = ptsS S 0 r := by simp [grtS, Int32.lt_irrefl]
theorem grx_a {S : q_St} {r i : Nat} (h : i = 0) : ptsS S i r + 100 = grxS S r (i + 1) := by
  subst h
  unfold grxS
  rw [if_neg (by omega), grt_1]
theorem grx_cmp {S : q_St} {K : Nat} (ho : q_ok K S) {r i : Nat} (hr : r < 8) (hi : i < 10) (h : ¬ i = 0) : ptsS S i r + 100 ≤ grxS S r i ↔ ptsS S i r ≤ grtS S r i := by
  unfold grxS
  rw [if_neg h]
  have h1 := (rg_add (rg_pts ho hi hr) (y := 100) (c := 100) (d := 100) (by unfold rgI; decide) (by decide) (by decide)).2
  have h2 := (rg_add (grt_rg ho hr i (by omega)) (y := 100) (c := 100) (d := 100) (by unfold rgI; decide) (by decide) (by decide)).2
  rw [Int32.le_iff_toInt_le, Int32.le_iff_toInt_le, h1, h2]
  omega
theorem grx_b {S : q_St} {K : Nat} (ho : q_ok K S) {r i : Nat} (hr : r < 8) (hi : i < 10) (h : ¬ i = 0) (c : ¬ ptsS S i r + 100 ≤ grxS S r i) : ptsS S i r + 100 = grxS S r (i + 1) := by
  have c2 : grtS S r i < ptsS S i r := Int32.not_le.mp fun q => c ((grx_cmp ho hr hi h).mpr q)
  unfold grxS
  rw [if_neg (by omega)]
  unfold grtS
  rw [if_pos c2]
theorem grx_c {S : q_St} {K : Nat} (ho : q_ok K S) {r i : Nat} (hr : r < 8) (hi : i < 10) (h : ¬ i = 0) (c : ptsS S i r + 100 ≤ grxS S r i) : grxS S r i = grxS S r (i + 1) := by
  have c2 : ¬ grtS S r i < ptsS S i r := Int32.not_lt.mpr ((grx_cmp ho hr hi h).mp c)
  unfold grxS
  rw [if_neg h, if_neg (by omega)]
  conv => rhs; unfold grtS
  rw [if_neg c2]
def shtS (S : q_St) (x y : Int32) : Bool := isTm S x && isRd y && hasS S (tN x) (tN y)
def nonS (S : q_St) (t r : Nat) : Bool := !hasS S t r && isOp S r
def mayS (S : q_St) (t r : Nat) : Bool := nonS S t r || (hasS S t r && !tldS S t r)
def extS (S : q_St) (t r : Nat) : Int32 := if mayS S t r = true then (if s_jok S t = nI r then 20 else 10) else 0
theorem ext_1 {S : q_St} {K : Nat} (ho : q_ok K S) {t r : Nat} (ht : t < 10) (hr : r < 8) : withJ S t r (gmkS S t r) = ptsS S t r + extS S t r := by
  cases c1 : tldS S t r with
  | true =>
    have c2 := ok_th ho ht hr c1
    have e : extS S t r = 0 := by simp [extS, mayS, nonS, c1, c2]
    have e2 : gmkS S t r = s_mar S (t * 8 + r) := by simp [gmkS, c1]
    rw [e, e2, Int32.add_zero]
    unfold ptsS
    rw [if_neg (tld_iff.mp c1)]
  | false =>
    have d : s_mkr S (t * 8 + r) = -6 := Classical.byContradiction fun q => by rw [tld_iff.mpr q] at c1; cases c1
    have e0 : ptsS S t r = 0 := if_pos d
    rw [e0, Int32.zero_add]
    cases c2 : hasS S t r <;> cases c3 : isOp S r <;> by_cases c4 : s_jok S t = nI r <;> simp [extS, mayS, nonS, gmkS, withJ, c1, c2, c3, c4]
theorem q_acc_add (a : Int32) (f h : Nat → Int32) : ∀ n : Nat, q_acc (q_acc a f n) h n = q_acc a (fun k => f k + h k) n
  | 0 => rfl
  | n + 1 => by
    have ih := q_acc_add a f h n
    have key : ∀ (x b : Int32) (m : Nat), q_acc (x + b) h m = q_acc x h m + b := by
      intro x b m
      induction m with
      | zero => rfl
      | succ m ihm =>
        show q_acc (x + b) h m + h m = q_acc x h m + h m + b
        rw [ihm, Int32.add_assoc, Int32.add_comm b, ← Int32.add_assoc]
    show q_acc (q_acc a f n + f n) h n + h n = q_acc a (fun k => f k + h k) n + (f n + h n)
    rw [key, ih, Int32.add_assoc]
theorem q_acc_congr {a : Int32} {f h : Nat → Int32} : ∀ {n : Nat}, (∀ k, k < n → f k = h k) → q_acc a f n = q_acc a h n
  | 0, _ => rfl
  | n + 1, hk => by
    show q_acc a f n + f n = q_acc a h n + h n
    rw [q_acc_congr fun k h => hk k (by omega), hk n (by omega)]
theorem rea_a {S : q_St} {K : Nat} (ho : q_ok K S) {t : Nat} (ht : t < 10) : q_acc (scoS S t) (extS S t) 8 = q_acc (fineS S t) (fun r => withJ S t r (gmkS S t r)) 8 := by
  unfold scoS
  rw [q_acc_add]
  exact q_acc_congr fun r hr => (ext_1 ho ht hr).symm
theorem cpj_any {S : q_St} {t : Nat} : ∀ n : Nat, q_any (cpj1 S t) n = (decide (s_jok S t = -6) && q_any (nonS S t) n)
  | 0 => by simp [q_any]
  | n + 1 => by
    show (q_any (cpj1 S t) n || cpj1 S t n) = (decide (s_jok S t = -6) && (q_any (nonS S t) n || nonS S t n))
    rw [cpj_any n]
    unfold cpj1 chiS nonS
    cases decide (s_jok S t = -6) <;> cases q_any (fun r => !hasS S t r && isOp S r) n <;> cases hasS S t n <;> cases isOp S n <;> rfl
theorem rea_1 {S : q_St} {K : Nat} (ho : q_ok K S) {t : Nat} (ht : t < 10) (h1 : q_any (nonS S t) 8 = true) (h2 : s_jok S t = -6) : q_acc (scoS S t) (extS S t) 8 + 10 = gscS S t := by
  unfold gscS
  rw [cpj_any, h1, decide_eq_true h2, rea_a ho ht]; rfl
theorem rea_2 {S : q_St} {K : Nat} (ho : q_ok K S) {t : Nat} (ht : t < 10) (h : q_any (nonS S t) 8 = false ∨ ¬ s_jok S t = -6) : q_acc (scoS S t) (extS S t) 8 + 0 = gscS S t := by
  unfold gscS
  rw [cpj_any, rea_a ho ht, Int32.add_zero]
  rcases h with h | h
  · rw [h, Bool.and_false]; rfl
  · rw [decide_eq_false h]; rfl
def wflS (S : q_St) (k : Nat) : Bool := wroS S (k / 8) (k % 8)
theorem wfl_8 (S : q_St) (n : Nat) : ∀ j : Nat, j ≤ 8 → q_cnt (wflS S) (8 * n + j) = q_cnt (wflS S) (8 * n) + q_cnt (wroS S n) j
  | 0, _ => rfl
  | j + 1, h => by
    have e : wflS S (8 * n + j) = wroS S n j := by unfold wflS; rw [show (8 * n + j) / 8 = n from by omega, show (8 * n + j) % 8 = j from by omega]
    show q_cnt (wflS S) (8 * n + j) + (if wflS S (8 * n + j) = true then 1 else 0) = q_cnt (wflS S) (8 * n) + (q_cnt (wroS S n) j + (if wroS S n j = true then 1 else 0))
    rw [wfl_8 S n j (by omega), e, Nat.add_assoc]
theorem wfl_n (S : q_St) : ∀ n : Nat, q_cnt (wflS S) (8 * n) = wroA S n
  | 0 => rfl
  | n + 1 => by
    rw [show 8 * (n + 1) = 8 * n + 8 from by omega, wfl_8 S n 8 (Nat.le_refl 8), wfl_n S n]; rfl
def iflk (S : q_St) (t k : Nat) : Int32 := if wflS S k = true then (if nI (k / 8) = nI t then (if s_jok S t = nI (k % 8) then 2 else 1) * (truM S t (k % 8) - s_mar S (k / 8 * 8 + k % 8)) else 0) - (if s_mkr S (k / 8 * 8 + k % 8) = nI t then s_set S 3 else 0) else 0
theorem i32_a (a b c d e m : Int32) : a + b - c * d + (e - c) = a + (b + e) - c * (d + 1) := by
  rw [Int32.mul_add, Int32.mul_one]
  simp only [Int32.sub_eq_add_neg, Int32.neg_add]
  ac_rfl
theorem i32_b (a b c d e : Int32) : a + b - c * d + (e - 0) = a + (b + e) - c * d := by
  rw [Int32.sub_zero]
  simp only [Int32.sub_eq_add_neg]
  ac_rfl
def silP (S : q_St) (t n j : Nat) : Int32 := if n = t then q_acc 0 (sil1 S t) j else 0
theorem ifl_8 {S : q_St} {t n : Nat} (ht : t < 10) (hn : n < 10) (a : Int32) : ∀ j : Nat, j ≤ 8 → q_acc a (iflk S t) (8 * n + j) = q_acc a (iflk S t) (8 * n) + silP S t n j - s_set S 3 * nI (q_cnt (wmt1 S t n) j)
  | 0, _ => by
    show _ = q_acc a (iflk S t) (8 * n) + silP S t n 0 - s_set S 3 * nI 0
    have e : silP S t n 0 = 0 := by unfold silP; split <;> rfl
    rw [e, Int32.add_zero, show nI 0 = 0 from rfl, Int32.mul_zero, Int32.sub_zero]; rfl
  | j + 1, h => by
    have ih := ifl_8 (S := S) ht hn a j (by omega)
    have d1 : (8 * n + j) / 8 = n := by omega
    have d2 : (8 * n + j) % 8 = j := by omega
    show q_acc a (iflk S t) (8 * n + j) + iflk S t (8 * n + j) = _
    rw [ih]
    have es : silP S t n (j + 1) = silP S t n j + (if n = t then sil1 S t j else 0) := by
      unfold silP
      split
      · rfl
      · rw [Int32.add_zero]
    have ec : q_cnt (wmt1 S t n) (j + 1) = q_cnt (wmt1 S t n) j + (if wmt1 S t n j = true then 1 else 0) := rfl
    rw [es, ec]
    unfold iflk wflS
    rw [d1, d2]
    have en : (nI n = nI t) ↔ n = t := nI_eq (by omega) (by omega)
    cases c1 : wroS S n j with
    | false =>
      have e1 : (if n = t then sil1 S t j else 0) = 0 := by
        split
        · next q => subst q; simp [sil1, c1]
        · rfl
      have e2 : wmt1 S t n j = false := by simp [wmt1, c1]
      rw [e1, e2, if_neg (by decide), if_neg (by decide), Int32.add_zero, Int32.add_zero, Nat.add_zero]
    | true =>
      rw [if_pos rfl]
      have e3 : (if nI n = nI t then (if s_jok S t = nI j then 2 else 1) * (truM S t j - s_mar S (n * 8 + j)) else 0) = (if n = t then sil1 S t j else 0) := by
        by_cases q : n = t
        · subst q
          rw [if_pos rfl, if_pos rfl]
          simp only [sil1, c1, if_true, withJ]
          split
          · rfl
          · rw [Int32.one_mul]
        · rw [if_neg (fun z => q (en.mp z)), if_neg q]
      rw [e3]
      by_cases c2 : s_mkr S (n * 8 + j) = nI t
      · have e2 : wmt1 S t n j = true := by simp [wmt1, c1, c2]
        rw [if_pos c2, e2, if_pos rfl, ← nI_1]
        exact i32_a _ _ _ _ _ 0
      · have e2 : wmt1 S t n j = false := by simp [wmt1, c1, c2]
        have e4 : (if false = true then (1 : Nat) else 0) = 0 := rfl
        rw [if_neg c2, e2, e4, Nat.add_zero]
        exact i32_b _ _ _ _ _
theorem ifl_n {S : q_St} {t : Nat} (ht : t < 10) (a : Int32) : ∀ n : Nat, n ≤ 10 → q_acc a (iflk S t) (8 * n) = a + (if t < n then q_acc 0 (sil1 S t) 8 else 0) - s_set S 3 * nI (wmtA S t n)
  | 0, _ => by
    show a = a + (if t < 0 then q_acc 0 (sil1 S t) 8 else 0) - s_set S 3 * nI 0
    rw [if_neg (by omega), Int32.add_zero, show nI 0 = 0 from rfl, Int32.mul_zero, Int32.sub_zero]
  | n + 1, h => by
    rw [show 8 * (n + 1) = 8 * n + 8 from by omega, ifl_8 ht (by omega) a 8 (Nat.le_refl 8), ifl_n ht a n (by omega)]
    have e1 : wmtA S t (n + 1) = wmtA S t n + q_cnt (wmt1 S t n) 8 := rfl
    rw [e1, ← nI_add, Int32.mul_add]
    have e2 : (if t < n + 1 then q_acc 0 (sil1 S t) 8 else 0) = (if t < n then q_acc 0 (sil1 S t) 8 else 0) + silP S t n 8 := by
      unfold silP
      by_cases c : t < n
      · rw [if_pos c, if_pos (by omega), if_neg (by omega), Int32.add_zero]
      · by_cases d : n = t
        · rw [if_neg c, if_pos (by omega), if_pos d, Int32.zero_add]
        · rw [if_neg c, if_neg (by omega), if_neg d, Int32.add_zero]
    rw [e2]
    simp only [Int32.sub_eq_add_neg, Int32.neg_add]
    ac_rfl
theorem q_acc_0 (a : Int32) (f : Nat → Int32) : ∀ n : Nat, q_acc a f n = a + q_acc 0 f n
  | 0 => (Int32.add_zero a).symm
  | n + 1 => by
    show q_acc a f n + f n = a + (q_acc 0 f n + f n)
    rw [q_acc_0 a f n, Int32.add_assoc]
theorem ifl_all {S : q_St} {t : Nat} (ht : t < s_n S) (hn : s_n S ≤ 10) : q_acc (scoS S t) (iflk S t) (8 * s_n S) = silS S t := by
  rw [ifl_n (by omega) _ _ hn, if_pos ht]
  unfold silS
  rw [q_acc_0 (scoS S t - s_set S 3 * nI (wmtA S t (s_n S)))]
  simp only [Int32.sub_eq_add_neg]
  ac_rfl
def lasF (S : q_St) (x : Int32) : Nat → Int32
  | 0 => -1
  | n + 1 => if plcS S n = x then nI n else lasF S x n
theorem ten_s1 {C : Nat → Int32} {n i : Nat} {bd : Bool} (h : n = 10) (h2 : q_any (fun k => !ten1 C bd k) i = false) (h3 : ten1 C bd i = true) : (decide (n = 10) && !q_any (fun k => !ten1 C bd k) (i + 1)) = true := by
  show (decide (n = 10) && !(q_any (fun k => !ten1 C bd k) i || !ten1 C bd i)) = true
  rw [h2, h3, decide_eq_true h]; rfl
theorem ten_s0 {C : Nat → Int32} {n i : Nat} {bd : Bool} (h : n = 10) (h2 : q_any (fun k => !ten1 C bd k) i = false) (h3 : ten1 C bd i = false) : (decide (n = 10) && !q_any (fun k => !ten1 C bd k) (i + 1)) = false := by
  show (decide (n = 10) && !(q_any (fun k => !ten1 C bd k) i || !ten1 C bd i)) = false
  rw [h2, h3, decide_eq_true h]; rfl
/-! the coupling, kept by each change -/
theorem up_ne {f : Nat → Int32} {j k : Nat} {v : Int32} (h : k ≠ j) : upd f j v k = f k := if_neg h
theorem up_eq {f : Nat → Int32} {j : Nat} {v : Int32} : upd f j v j = v := if_pos rfl
theorem jkI_n {r : Nat} (h : r < 2 ^ 30) : jkI (nI r) = nI (r + 1) := by
  unfold jkI
  rw [if_neg (nI_6 (by omega))]
  exact nI_1 _
theorem ok_joku {S : q_St} {K : Nat} (ho : q_ok K S) {t r : Nat} (ht : t < 10) (hr : r < 8) : q_ok K (jokS S t r) := by
  refine ⟨?_, ?_, ?_, ?_, ?_, ?_, ?_, ?_, ?_, ?_, ?_, ?_, ?_⟩
  · exact ho.1
  · exact ho.2.1
  · exact ho.2.2.1
  · exact ho.2.2.2.1
  · exact ho.2.2.2.2.1
  · intro u hu
    by_cases e : u = t
    · subst e; exact Or.inr ⟨r, hr, up_eq⟩
    · rw [show s_jok (jokS S t r) u = s_jok S u from up_ne e]; exact ok_jok ho hu
  · exact ho.2.2.2.2.2.2.1
  · exact ho.2.2.2.2.2.2.2.1
  · exact ho.2.2.2.2.2.2.2.2.1
  · exact ho.2.2.2.2.2.2.2.2.2.1
  · exact ho.2.2.2.2.2.2.2.2.2.2.1
  · exact ho.2.2.2.2.2.2.2.2.2.2.2.1
  · exact ho.2.2.2.2.2.2.2.2.2.2.2.2
theorem ok_setu {S : q_St} {K : Nat} (ho : q_ok K S) {j : Nat} (y : Int32) (h2 : j = 2 → ∃ v, v ≤ 2 ∧ y = nI v) (h3 : j = 3 → ∃ v, v ≤ 9 ∧ y = nI v) : q_ok K (u_set S (upd (s_set S) j y)) := by
  refine ⟨?_, ?_, ?_, ?_, ?_, ?_, ?_, ?_, ?_, ?_, ?_, ?_, ?_⟩
  · exact ho.1
  · exact ho.2.1
  · exact ho.2.2.1
  · exact ho.2.2.2.1
  · exact ho.2.2.2.2.1
  · exact ho.2.2.2.2.2.1
  · exact ho.2.2.2.2.2.2.1
  · exact ho.2.2.2.2.2.2.2.1
  · by_cases e : 2 = j
    · obtain ⟨v, hv, ev⟩ := h2 e.symm
      exact ⟨v, hv, by rw [← ev, e]; exact up_eq⟩
    · obtain ⟨v, hv, ev⟩ := ho.2.2.2.2.2.2.2.2.1
      exact ⟨v, hv, (up_ne e).trans ev⟩
  · by_cases e : 3 = j
    · obtain ⟨v, hv, ev⟩ := h3 e.symm
      exact ⟨v, hv, by rw [← ev, e]; exact up_eq⟩
    · obtain ⟨v, hv, ev⟩ := ho.2.2.2.2.2.2.2.2.2.1
      exact ⟨v, hv, (up_ne e).trans ev⟩
  · exact ho.2.2.2.2.2.2.2.2.2.2.1
  · exact ho.2.2.2.2.2.2.2.2.2.2.2.1
  · exact ho.2.2.2.2.2.2.2.2.2.2.2.2
theorem ok_gueu {S : q_St} {K : Nat} (ho : q_ok K S) {t : Nat} (ht : t < 10) {v : Nat} (hv : v ≤ 9999) : q_ok K (u_gue S (upd (s_gue S) t (nI v))) := by
  refine ⟨?_, ?_, ?_, ?_, ?_, ?_, ?_, ?_, ?_, ?_, ?_, ?_, ?_⟩
  · exact ho.1
  · exact ho.2.1
  · exact ho.2.2.1
  · exact ho.2.2.2.1
  · exact ho.2.2.2.2.1
  · exact ho.2.2.2.2.2.1
  · intro u hu
    by_cases e : u = t
    · subst e; exact Or.inr ⟨v, hv, up_eq⟩
    · rw [show s_gue (u_gue S (upd (s_gue S) t (nI v))) u = s_gue S u from up_ne e]; exact ok_gue ho hu
  · exact ho.2.2.2.2.2.2.2.1
  · exact ho.2.2.2.2.2.2.2.2.1
  · exact ho.2.2.2.2.2.2.2.2.2.1
  · exact ho.2.2.2.2.2.2.2.2.2.2.1
  · exact ho.2.2.2.2.2.2.2.2.2.2.2.1
  · exact ho.2.2.2.2.2.2.2.2.2.2.2.2
theorem ok_truu {S : q_St} {K : Nat} (ho : q_ok K S) {v : Nat} (hv : v ≤ 9999) : q_ok K (u_tru S (nI v)) := by
  refine ⟨?_, ?_, ?_, ?_, ?_, ?_, ?_, ?_, ?_, ?_, ?_, ?_, ?_⟩
  · exact ho.1
  · exact ho.2.1
  · exact ho.2.2.1
  · exact ho.2.2.2.1
  · exact ho.2.2.2.2.1
  · exact ho.2.2.2.2.2.1
  · exact ho.2.2.2.2.2.2.1
  · exact Or.inr ⟨v, hv, rfl⟩
  · exact ho.2.2.2.2.2.2.2.2.1
  · exact ho.2.2.2.2.2.2.2.2.2.1
  · exact ho.2.2.2.2.2.2.2.2.2.2.1
  · exact ho.2.2.2.2.2.2.2.2.2.2.2.1
  · exact ho.2.2.2.2.2.2.2.2.2.2.2.2
theorem ok_maru {S : q_St} {K : Nat} (ho : q_ok K S) {m t r : Nat} (hm : m < s_n S) (ht : t < 10) (hr : r < 8) {k : Int32} (h1 : -20 ≤ k.toInt) (h2 : k.toInt ≤ 10) (hS : hasS S t r = true) (hO : isOp S r = false) : q_ok K (marS S m t r k) := by
  refine ⟨?_, ?_, ?_, ?_, ?_, ?_, ?_, ?_, ?_, ?_, ?_, ?_, ?_⟩
  · exact ho.1
  · exact ho.2.1
  · intro u q hu hq h
    by_cases e : u * 8 + q = t * 8 + r
    · have e1 : u = t := by omega
      have e2 : q = r := by omega
      subst e1; subst e2
      refine ⟨⟨m, hm, up_eq⟩, hS, hO, ?_, ?_⟩
      · rw [show s_mar (marS S m u q k) (u * 8 + q) = k from up_eq]; exact h1
      · rw [show s_mar (marS S m u q k) (u * 8 + q) = k from up_eq]; exact h2
    · have hT : tldS (marS S m t r k) u q = tldS S u q := congrArg (fun z => decide (¬ z = -6)) (up_ne e)
      rw [show s_mar (marS S m t r k) (u * 8 + q) = s_mar S (u * 8 + q) from up_ne e, show s_mkr (marS S m t r k) (u * 8 + q) = s_mkr S (u * 8 + q) from up_ne e]
      exact ho.2.2.1 u q hu hq (hT ▸ h)
  · intro u q hu hq h
    by_cases e : u * 8 + q = t * 8 + r
    · have e1 : u = t := by omega
      have e2 : q = r := by omega
      subst e1; subst e2
      have := ho.1
      exact decide_eq_true (by rw [show s_mkr (marS S m u q k) (u * 8 + q) = nI m from up_eq]; exact nI_6 (by omega))
    · rw [show tldS (marS S m t r k) u q = tldS S u q from congrArg (fun z => decide (¬ z = -6)) (up_ne e)]
      exact ho.2.2.2.1 u q hu hq h
  · exact ho.2.2.2.2.1
  · exact ho.2.2.2.2.2.1
  · exact ho.2.2.2.2.2.2.1
  · exact ho.2.2.2.2.2.2.2.1
  · exact ho.2.2.2.2.2.2.2.2.1
  · exact ho.2.2.2.2.2.2.2.2.2.1
  · exact ho.2.2.2.2.2.2.2.2.2.2.1
  · exact ho.2.2.2.2.2.2.2.2.2.2.2.1
  · exact ho.2.2.2.2.2.2.2.2.2.2.2.2
theorem ok_teau {S : q_St} {K : Nat} (ho : q_ok K S) (hn : s_n S < 10) : q_ok K (teaS S) := by
  refine ⟨?_, ?_, ?_, ?_, ?_, ?_, ?_, ?_, ?_, ?_, ?_, ?_, ?_⟩
  · exact hn
  · exact ho.2.1
  · intro u q hu hq h
    obtain ⟨⟨m, hm, em⟩, h2⟩ := ho.2.2.1 u q hu hq h
    exact ⟨⟨m, Nat.lt_succ_of_lt hm, em⟩, h2⟩
  · exact ho.2.2.2.1
  · intro r hr
    have h1 := ok_loo ho hr
    have h2 : lokS S (s_n S) r = false := by
      cases hl : lokS S (s_n S) r
      · rfl
      · have h3 := ok_th ho hn hr (ok_lt ho hn hr hl)
        rw [ho.2.2.2.2.2.2.2.2.2.2.2.2 (s_n S) (Nat.le_refl _) hn r hr] at h3; cases h3
    show s_loo S r = q_or (fun t => lokS S t r) (s_n S + 1)
    rw [h1]
    simp only [q_or, h2]
    simp
  · exact ho.2.2.2.2.2.1
  · exact ho.2.2.2.2.2.2.1
  · exact ho.2.2.2.2.2.2.2.1
  · exact ho.2.2.2.2.2.2.2.2.1
  · exact ho.2.2.2.2.2.2.2.2.2.1
  · exact ho.2.2.2.2.2.2.2.2.2.2.1
  · exact ho.2.2.2.2.2.2.2.2.2.2.2.1
  · exact fun t h1 h2 r hr => ho.2.2.2.2.2.2.2.2.2.2.2.2 t (Nat.le_of_succ_le h1) h2 r hr
theorem ok_finu {S : q_St} {K : Nat} (ho : q_ok K S) {m : Nat} (hm : m < 10) {j : Nat} (hj : j ≤ K + 1) : q_ok (K + 1) (u_fin S (upd (s_fin S) m (nI j))) := by
  refine ⟨?_, ?_, ?_, ?_, ?_, ?_, ?_, ?_, ?_, ?_, ?_, ?_, ?_⟩
  · exact ho.1
  · intro u hu
    by_cases e : u = m
    · subst e; exact ⟨j, hj, up_eq⟩
    · obtain ⟨i, hi, ei⟩ := ok_fin ho hu
      exact ⟨i, by omega, (up_ne e).trans ei⟩
  · exact ho.2.2.1
  · exact ho.2.2.2.1
  · exact ho.2.2.2.2.1
  · exact ho.2.2.2.2.2.1
  · exact ho.2.2.2.2.2.2.1
  · exact ho.2.2.2.2.2.2.2.1
  · exact ho.2.2.2.2.2.2.2.2.1
  · exact ho.2.2.2.2.2.2.2.2.2.1
  · exact ho.2.2.2.2.2.2.2.2.2.2.1
  · exact ho.2.2.2.2.2.2.2.2.2.2.2.1
  · exact ho.2.2.2.2.2.2.2.2.2.2.2.2
theorem ok_mru {S : q_St} {K : Nat} (ho : q_ok K S) {t r : Nat} (ht : t < 10) (hr : r < 8) {k : Int32} (h1 : -20 ≤ k.toInt) (h2 : k.toInt ≤ 10) : q_ok K (u_mar S (upd (s_mar S) (t * 8 + r) k)) := by
  refine ⟨?_, ?_, ?_, ?_, ?_, ?_, ?_, ?_, ?_, ?_, ?_, ?_, ?_⟩
  · exact ho.1
  · exact ho.2.1
  · intro u q hu hq h
    obtain ⟨g1, g2, g3, g4, g5⟩ := ho.2.2.1 u q hu hq h
    refine ⟨g1, g2, g3, ?_⟩
    by_cases e : u * 8 + q = t * 8 + r
    · rw [show s_mar (u_mar S (upd (s_mar S) (t * 8 + r) k)) (u * 8 + q) = k from by rw [e]; exact up_eq]; exact ⟨h1, h2⟩
    · rw [show s_mar (u_mar S (upd (s_mar S) (t * 8 + r) k)) (u * 8 + q) = s_mar S (u * 8 + q) from up_ne e]; exact ⟨g4, g5⟩
  · exact ho.2.2.2.1
  · exact ho.2.2.2.2.1
  · exact ho.2.2.2.2.2.1
  · exact ho.2.2.2.2.2.2.1
  · exact ho.2.2.2.2.2.2.2.1
  · exact ho.2.2.2.2.2.2.2.2.1
  · exact ho.2.2.2.2.2.2.2.2.2.1
  · exact ho.2.2.2.2.2.2.2.2.2.2.1
  · exact ho.2.2.2.2.2.2.2.2.2.2.2.1
  · exact ho.2.2.2.2.2.2.2.2.2.2.2.2
/-! one more bit -/
theorem q_or_c {f g : Nat → Bool} : ∀ n : Nat, (∀ u, u < n → f u = g u) → q_or f n = q_or g n
  | 0, _ => rfl
  | n + 1, h => by
    show q_or f n ||| _ = q_or g n ||| _
    rw [q_or_c n (fun u hu => h u (by omega)), h n (by omega)]
theorem q_or_b (f : Nat → Bool) (t : Nat) : ∀ n : Nat, t < n → q_or f n ||| ((1 : Int32) <<< (nI t &&& 31)) = q_or (fun u => f u || decide (u = t)) n
  | 0, h => absurd h (by omega)
  | n + 1, h => by
    show (q_or f n ||| (if f n = true then (1 : Int32) <<< (nI n &&& 31) else 0)) ||| _ = q_or (fun u => f u || decide (u = t)) n ||| (if (f n || decide (n = t)) = true then (1 : Int32) <<< (nI n &&& 31) else 0)
    by_cases e : t = n
    · subst e
      rw [q_or_c (f := f) (g := fun u => f u || decide (u = t)) t (fun u hu => by rw [decide_eq_false (by omega), Bool.or_false])]
      rw [decide_eq_true rfl, Bool.or_true, if_pos rfl, Int32.or_assoc]
      by_cases q : f t = true
      · rw [if_pos q, Int32.or_self]
      · rw [if_neg q, Int32.zero_or]
    · rw [← q_or_b f t n (by omega), decide_eq_false (by omega), Bool.or_false, Int32.or_assoc, Int32.or_assoc, Int32.or_comm ((1 : Int32) <<< (nI t &&& 31))]
theorem q_cnt_e {f g : Nat → Bool} : ∀ n : Nat, (∀ u, u < n → f u = g u) → q_cnt f n = q_cnt g n
  | 0, _ => rfl
  | n + 1, h => by
    unfold q_cnt
    rw [q_cnt_e n (fun u hu => h u (by omega)), h n (by omega)]
theorem q_cnt_b (f : Nat → Bool) (t : Nat) (hf : f t = false) : ∀ n : Nat, t < n → q_cnt (fun u => f u || decide (u = t)) n = q_cnt f n + 1
  | 0, h => absurd h (by omega)
  | n + 1, h => by
    unfold q_cnt
    by_cases e : t = n
    · subst e
      rw [q_cnt_e (f := fun u => f u || decide (u = t)) (g := f) t (fun u hu => by rw [decide_eq_false (by omega), Bool.or_false])]
      simp [hf]
    · rw [q_cnt_b f t hf n (by omega)]
      have e2 : decide (n = t) = false := decide_eq_false (by omega)
      simp only [e2, Bool.or_false]
      omega
theorem q_acc_1 (b : Int32) (f g : Nat → Int32) (r : Nat) (w : Int32) : ∀ n : Nat, (∀ q, q < n → ¬ q = r → g q = f q) → g r = f r + w → q_acc b g n = if r < n then q_acc b f n + w else q_acc b f n
  | 0, _, _ => by rw [if_neg (by omega)]; rfl
  | n + 1, h, hw => by
    have ih := q_acc_1 b f g r w n (fun q hq => h q (by omega)) hw
    unfold q_acc
    rw [ih]
    by_cases e : r = n
    · subst e
      rw [if_neg (by omega), if_pos (by omega), hw, Int32.add_assoc]
    · rw [h n (by omega) (fun q => e q.symm)]
      by_cases k : r < n
      · rw [if_pos k, if_pos (by omega), Int32.add_assoc, Int32.add_comm w, ← Int32.add_assoc]
      · rw [if_neg k, if_neg (by omega)]
theorem q_tsb : ∀ n u : Fin 10, (((1 : Int32) <<< (nI n.val &&& 31)) &&& ((1 : Int32) <<< (nI u.val &&& 31)) = 0) ↔ ¬ n.val = u.val := by decide +kernel
theorem i32_oa (a b c : Int32) : (a ||| b) &&& c = (a &&& c) ||| (b &&& c) := by
  apply Int32.toBitVec_inj.mp
  ext i
  simp [Bool.and_or_distrib_right]
theorem i32_o0 {a b : Int32} : a ||| b = 0 ↔ a = 0 ∧ b = 0 := by
  constructor
  · intro h
    have h := congrArg Int32.toBitVec h
    have h2 := (BitVec.or_eq_zero_iff (x := a.toBitVec) (y := b.toBitVec)).mp h
    exact ⟨Int32.toBitVec_inj.mp h2.1, Int32.toBitVec_inj.mp h2.2⟩
  · rintro ⟨rfl, rfl⟩; rfl
theorem q_tst (f : Nat → Bool) {u : Nat} (hu : u < 10) : ∀ n : Nat, n ≤ 10 → ((q_or f n &&& ((1 : Int32) <<< (nI u &&& 31))) = 0 ↔ ¬ (u < n ∧ f u = true))
  | 0, _ => by simp [q_or]
  | n + 1, h => by
    show ((q_or f n ||| (if f n = true then (1 : Int32) <<< (nI n &&& 31) else 0)) &&& _) = 0 ↔ _
    rw [i32_oa, i32_o0, q_tst f hu n (by omega)]
    by_cases q : f n = true
    · rw [if_pos q, q_tsb ⟨n, by omega⟩ ⟨u, hu⟩]
      constructor
      · rintro ⟨h1, h2⟩ ⟨h3, h4⟩
        exact h1 ⟨by simp only at h2; omega, h4⟩
      · intro h1
        exact ⟨fun h2 => h1 ⟨by omega, h2.2⟩, fun h2 => h1 ⟨by simp only at h2; omega, by simp only at h2; rw [← h2]; exact q⟩⟩
    · rw [if_neg q]
      constructor
      · rintro ⟨h1, _⟩ ⟨h3, h4⟩
        by_cases e : u = n
        · exact q (e ▸ h4)
        · exact h1 ⟨by omega, h4⟩
      · intro h1
        exact ⟨fun h2 => h1 ⟨by omega, h2.2⟩, by simp⟩
theorem lok_up {S : q_St} {t r u : Nat} (ht : t < 10) (hu : u < 10) : lokS (u_loo S (upd (s_loo S) r (s_loo S r ||| ((1 : Int32) <<< (nI t &&& 31))))) u r = (lokS S u r || decide (u = t)) := by
  have h := q_tsb ⟨t, ht⟩ ⟨u, hu⟩
  show decide (¬ (upd (s_loo S) r (s_loo S r ||| ((1 : Int32) <<< (nI t &&& 31))) r &&& ((1 : Int32) <<< (nI u &&& 31))) = 0) = (decide (¬ (s_loo S r &&& ((1 : Int32) <<< (nI u &&& 31))) = 0) || decide (u = t))
  rw [up_eq, i32_oa]
  simp only [i32_o0, h]
  by_cases e : u = t
  · simp [e]
  · have e2 : ¬ t = u := fun q => e q.symm
    simp [e, e2]
theorem lok_un {S : q_St} {r q u : Nat} {x : Int32} (e : ¬ q = r) : lokS (u_loo S (upd (s_loo S) r x)) u q = lokS S u q := by
  show decide (¬ (upd (s_loo S) r x q &&& _) = 0) = _
  rw [up_ne e]; rfl
/-! ten signs in one number; a sheet handed in, a key told -/
theorem sg_n {m k : Nat} (hm : m < 2 ^ 64) (hk : k < 10) : sgn (lN m) k = nI (m / 2 ^ (4 * k) % 16) := by
  unfold sgn
  rw [show (4 : Int32) * nI k = nI (4 * k) from pk_mul 4 k, wb_shr hm (by omega), lN_i]
  show nI _ &&& nI 15 = _
  rw [nx_and', show (15 : Nat) = 2 ^ 4 - 1 from rfl, Nat.and_two_pow_sub_one_eq_mod]
theorem sg_p10 {n : Nat} (h : n ≤ 10) : 2 ^ (4 * n) ≤ 2 ^ 40 := Nat.pow_le_pow_right (by decide) (by omega)
theorem sg_w {m n d : Nat} (hm : m < 2 ^ (4 * n)) (hn : n < 10) (hd : d < 16) : wsg (lN m) n (nI d) = lN (m + d * 2 ^ (4 * n)) := by
  have h1 := sg_p10 (n := n) (by omega)
  have h2 : d * 2 ^ (4 * n) ≤ 15 * 2 ^ 40 := Nat.mul_le_mul (by omega) h1
  have h3 : 15 * 2 ^ 40 < 2 ^ 64 := Nat.le_of_ble_eq_true rfl
  have h4 : (2 : Nat) ^ 40 < 2 ^ 64 := Nat.le_of_ble_eq_true rfl
  unfold wsg
  rw [show (4 : Int32) * nI n = nI (4 * n) from pk_mul 4 n, nI_l (n := d) (by omega), wb_shl d (by omega), wb_or (Nat.lt_trans (Nat.lt_of_lt_of_le hm h1) h4) (Nat.lt_of_le_of_lt h2 h3)]
  rw [Nat.or_comm, Nat.mul_comm d, ← Nat.two_pow_add_eq_or_of_lt hm, Nat.add_comm]
theorem sgv_of (x : Int32) : ∃ d, d < 16 ∧ sgv x = nI d ∧ (isDg x = true → d ≤ 9 ∧ x - 48 = nI d) := by
  cases c : isDg x with
  | false =>
    refine ⟨15, by decide, ?_, fun h => by cases h⟩
    unfold sgv; rw [c]; rfl
  | true =>
    have h := c
    simp only [isDg, Bool.and_eq_true, Bool.not_eq_true', decide_eq_false_iff_not] at h
    obtain ⟨v, hv, rfl⟩ := nI_of (x := x) (fun q => h.1 (Int32.lt_of_lt_of_le q (by decide)))
    have h1 : 48 ≤ v := by
      rcases Nat.lt_or_ge v 48 with q | q
      · exact absurd (nI_lt (b := 48) q (by decide)) h.1
      · exact q
    have h2 : v ≤ 57 := by
      rcases Nat.lt_or_ge 57 v with q | q
      · exact absurd (nI_lt (a := 57) q hv) h.2
      · exact q
    have e : nI v - 48 = nI (v - 48) := pk_sub (b := 48) h1
    refine ⟨v - 48, by omega, ?_, fun _ => ⟨by omega, e⟩⟩
    unfold sgv; rw [c, if_pos rfl, e]
theorem sg_m (C : Nat → Int32) : ∀ n : Nat, n ≤ 10 → ∃ m, m < 2 ^ (4 * n) ∧ sigs C n = lN m ∧ ∀ k, k < n → nI (m / 2 ^ (4 * k) % 16) = sgv (C k)
  | 0, _ => ⟨0, by decide, rfl, fun k h => absurd h (Nat.not_lt_zero k)⟩
  | n + 1, h => by
    obtain ⟨m, h1, h2, h3⟩ := sg_m C n (by omega)
    obtain ⟨d, hd, hd2, -⟩ := sgv_of (C n)
    have hp : 2 ^ (4 * (n + 1)) = 2 ^ (4 * n) * 16 := by rw [show 4 * (n + 1) = 4 * n + 4 from by omega, Nat.pow_add]
    have hdp : d * 2 ^ (4 * n) ≤ 15 * 2 ^ (4 * n) := Nat.mul_le_mul_right _ (by omega)
    refine ⟨m + d * 2 ^ (4 * n), by omega, ?_, ?_⟩
    · show wsg (sigs C n) n (sgv (C n)) = _
      rw [h2, hd2, sg_w h1 (by omega) hd]
    · intro k hk
      rcases Nat.lt_or_ge k n with c | c
      · rw [← h3 k c]
        have e : d * 2 ^ (4 * n) = 2 ^ (4 * k) * (16 * (d * 2 ^ (4 * (n - k - 1)))) := by
          rw [show 4 * n = 4 * k + (4 + 4 * (n - k - 1)) from by omega, Nat.pow_add, Nat.pow_add, show (2 : Nat) ^ 4 = 16 from rfl]
          ac_rfl
        rw [e, Nat.add_mul_div_left _ _ (Nat.two_pow_pos _), Nat.add_mul_mod_self_left]
      · have e : k = n := by omega
        subst e
        rw [Nat.add_mul_div_right _ _ (Nat.two_pow_pos _), Nat.div_eq_of_lt h1, Nat.zero_add, Nat.mod_eq_of_lt hd, hd2]
theorem sg_k (C : Nat → Int32) {k : Nat} (hk : k < 10) : sgn (sigs C 10) k = sgv (C k) := by
  obtain ⟨m, h1, h2, h3⟩ := sg_m C 10 (Nat.le_refl 10)
  rw [h2, sg_n (Nat.lt_trans h1 (Nat.pow_lt_pow_right (by decide) (by decide))) hk, h3 k hk]
theorem sg_ne (C : Nat → Int32) : ¬ sigs C 10 = -1 := by
  obtain ⟨m, h1, h2, -⟩ := sg_m C 10 (Nat.le_refl 10)
  rw [h2]
  intro q
  have q := congrArg Int64.toInt q
  rw [pk_lT (Nat.lt_trans h1 (Nat.pow_lt_pow_right (by decide) (by decide))), show (-1 : Int64).toInt = -1 from by decide] at q
  omega
theorem sgv_45 : sgv 45 = 15 := by decide
theorem sgv_sg {x : Int32} (h : isSg x = true) : sgv x = 15 ∨ ∃ d, d ≤ 9 ∧ sgv x = nI d := by
  by_cases c : x = 45
  · subst c; exact Or.inl sgv_45
  · have h2 : isDg x = true := by simpa [isSg, c] using h
    obtain ⟨d, -, e, k⟩ := sgv_of x
    exact Or.inr ⟨d, (k h2).1, e⟩
theorem sgv_dg {x : Int32} (h : isDg x = true) : ∃ d, d ≤ 9 ∧ sgv x = nI d := by
  obtain ⟨d, -, e, k⟩ := sgv_of x
  exact ⟨d, (k h).1, e⟩
theorem sgv_48 {x : Int32} (h : isDg x = true) : x - 48 = sgv x := by
  unfold sgv; rw [if_pos h]
theorem sgv_15 {x : Int32} (h : isSg x = true) : (¬ sgv x = 15) ↔ ¬ x = 45 := by
  by_cases c : x = 45
  · subst c; simp [sgv_45]
  · have h2 : isDg x = true := by simpa [isSg, c] using h
    obtain ⟨d, hd, e⟩ := sgv_dg h2
    rw [e]
    refine ⟨fun _ => c, fun _ q => ?_⟩
    have := (nI_eq (a := d) (b := 15) (by omega) (by decide)).mp q
    omega
theorem han_e {S : q_St} {t r : Nat} {w : Int64} (hw : ¬ w = -1) : hasS (hanS S t r w) t r = true := by
  show decide (¬ vp_updL (s_she S) (t * 8 + r) w (t * 8 + r) = -1) = true
  rw [show vp_updL (s_she S) (t * 8 + r) w (t * 8 + r) = w from if_pos rfl]
  exact decide_eq_true hw
theorem han_n {S : q_St} {t r u q : Nat} {w : Int64} (e : ¬ u * 8 + q = t * 8 + r) : hasS (hanS S t r w) u q = hasS S u q := by
  show decide (¬ vp_updL (s_she S) (t * 8 + r) w (u * 8 + q) = -1) = _
  rw [show vp_updL (s_she S) (t * 8 + r) w (u * 8 + q) = s_she S (u * 8 + q) from if_neg e]; rfl
theorem key_e {S : q_St} {r : Nat} {w : Int64} (hw : ¬ w = -1) : isOp (keyS S r w) r = false := by
  show decide (vp_updL (s_key S) r w r = -1) = false
  rw [show vp_updL (s_key S) r w r = w from if_pos rfl]
  exact decide_eq_false hw
theorem key_n {S : q_St} {r q : Nat} {w : Int64} (e : ¬ q = r) : isOp (keyS S r w) q = isOp S q := by
  show decide (vp_updL (s_key S) r w q = -1) = _
  rw [show vp_updL (s_key S) r w q = s_key S q from if_neg e]; rfl
theorem key_f {S : q_St} {r q : Nat} {w : Int64} (hw : ¬ w = -1) (h : isOp S q = false) : isOp (keyS S r w) q = false := by
  by_cases e : q = r
  · subst e; exact key_e hw
  · rw [key_n e]; exact h
theorem han_t {S : q_St} {t r u q : Nat} {w : Int64} (hw : ¬ w = -1) (h : hasS S u q = true) : hasS (hanS S t r w) u q = true := by
  by_cases e : u * 8 + q = t * 8 + r
  · show decide (¬ vp_updL (s_she S) (t * 8 + r) w (u * 8 + q) = -1) = true
    rw [e, show vp_updL (s_she S) (t * 8 + r) w (t * 8 + r) = w from if_pos rfl]
    exact decide_eq_true hw
  · rw [han_n e]; exact h
theorem ok_hanu {S : q_St} {K : Nat} (ho : q_ok K S) {t r : Nat} (ht : t < s_n S) (hr : r < 8) {w : Int64} (hw : ¬ w = -1) (hs : ∀ k, k < 10 → sgn w k = 15 ∨ ∃ d, d ≤ 9 ∧ sgn w k = nI d) : q_ok K (hanS S t r w) := by
  refine ⟨?_, ?_, ?_, ?_, ?_, ?_, ?_, ?_, ?_, ?_, ?_, ?_, ?_⟩
  · exact ho.1
  · exact ho.2.1
  · intro u q hu hq h
    obtain ⟨g1, g2, g3⟩ := ho.2.2.1 u q hu hq h
    exact ⟨g1, han_t hw g2, g3⟩
  · exact ho.2.2.2.1
  · exact ho.2.2.2.2.1
  · exact ho.2.2.2.2.2.1
  · exact ho.2.2.2.2.2.2.1
  · exact ho.2.2.2.2.2.2.2.1
  · exact ho.2.2.2.2.2.2.2.2.1
  · exact ho.2.2.2.2.2.2.2.2.2.1
  · exact ho.2.2.2.2.2.2.2.2.2.2.1
  · intro u q hu hq h k hk
    by_cases e : u * 8 + q = t * 8 + r
    · rw [show s_she (hanS S t r w) (u * 8 + q) = w from if_pos e]; exact hs k hk
    · rw [han_n e] at h
      rw [show s_she (hanS S t r w) (u * 8 + q) = s_she S (u * 8 + q) from if_neg e]; exact ho.2.2.2.2.2.2.2.2.2.2.2.1 u q hu hq h k hk
  · intro u h1 h2 q hq
    have h1 : s_n S ≤ u := h1
    rw [han_n (by omega)]
    exact ok_out ho h1 h2 hq
theorem ok_keyu {S : q_St} {K : Nat} (ho : q_ok K S) {r : Nat} (hr : r < 8) {w : Int64} (hw : ¬ w = -1) (hs : ∀ k, k < 10 → ∃ d, d ≤ 9 ∧ sgn w k = nI d) : q_ok K (keyS S r w) := by
  refine ⟨?_, ?_, ?_, ?_, ?_, ?_, ?_, ?_, ?_, ?_, ?_, ?_, ?_⟩
  · exact ho.1
  · exact ho.2.1
  · intro u q hu hq h
    obtain ⟨g1, g2, g3, g4⟩ := ho.2.2.1 u q hu hq h
    exact ⟨g1, g2, key_f hw g3, g4⟩
  · exact ho.2.2.2.1
  · exact ho.2.2.2.2.1
  · exact ho.2.2.2.2.2.1
  · exact ho.2.2.2.2.2.2.1
  · exact ho.2.2.2.2.2.2.2.1
  · exact ho.2.2.2.2.2.2.2.2.1
  · exact ho.2.2.2.2.2.2.2.2.2.1
  · intro q hq h k hk
    by_cases e : q = r
    · subst e
      rw [show s_key (keyS S q w) q = w from if_pos rfl]; exact hs k hk
    · rw [key_n e] at h
      rw [show s_key (keyS S r w) q = s_key S q from if_neg e]; exact ho.2.2.2.2.2.2.2.2.2.2.1 q hq h k hk
  · exact ho.2.2.2.2.2.2.2.2.2.2.2.1
  · exact ho.2.2.2.2.2.2.2.2.2.2.2.2
theorem ok_up {K K2 : Nat} {S : q_St} (h : K ≤ K2) (ho : q_ok K S) : q_ok K2 S :=
  ⟨ho.1, fun u hu => by obtain ⟨j, h1, h2⟩ := ok_fin ho hu; exact ⟨j, by omega, h2⟩, ho.2.2⟩
theorem bool_t {b : Bool} (h : ¬ b = false) : b = true := by cases b with | true => rfl | false => exact absurd rfl h
theorem bool_f {b : Bool} (h : ¬ b = true) : b = false := by cases b with | false => rfl | true => exact absurd rfl h
theorem va_up_e {X : Nat → q_St} {j : Nat} {S : q_St} : va_up X j S j = S := if_pos rfl
theorem va_up_n {X : Nat → q_St} {j k : Nat} {S : q_St} (h : ¬ k = j) : va_up X j S k = X k := if_neg h
theorem teaE_0 {V : q_CV} (h : teaE V = 0) : s_n (v_now V) < 10 ∧ q_or (isOp (v_now V)) 8 = 255 := by
  unfold teaE at h
  by_cases c0 : ¬ s_n (v_now V) < 10
  · rw [if_pos c0] at h; exact absurd h (by decide)
  rw [if_neg c0] at h
  by_cases c1 : ¬ q_or (isOp (v_now V)) 8 = 255
  · rw [if_pos c1] at h; exact absurd h (by decide)
  rw [if_neg c1] at h
  exact ⟨Classical.byContradiction c0, Classical.byContradiction c1⟩
theorem hanE_0 {V : q_CV} {x y : Int32} (h : hanE V x y = 0) : isTm (v_now V) x = true ∧ isRd y = true ∧ tshP (v_pc V) (v_pl V) = true ∧ isOp (v_now V) (tN y) = true ∧ hasS (v_now V) (tN x) (tN y) = false := by
  unfold hanE at h
  by_cases c0 : isTm (v_now V) x = false
  · rw [if_pos c0] at h; exact absurd h (by decide)
  rw [if_neg c0] at h
  by_cases c1 : isRd y = false
  · rw [if_pos c1] at h; exact absurd h (by decide)
  rw [if_neg c1] at h
  by_cases c2 : tshP (v_pc V) (v_pl V) = false
  · rw [if_pos c2] at h; exact absurd h (by decide)
  rw [if_neg c2] at h
  by_cases c3 : isOp (v_now V) (tN y) = false
  · rw [if_pos c3] at h; exact absurd h (by decide)
  rw [if_neg c3] at h
  by_cases c4 : hasS (v_now V) (tN x) (tN y) = true
  · rw [if_pos c4] at h; exact absurd h (by decide)
  rw [if_neg c4] at h
  exact ⟨bool_t c0, bool_t c1, bool_t c2, bool_t c3, bool_f c4⟩
theorem jokE_0 {V : q_CV} {x y : Int32} (h : jokE V x y = 0) : isTm (v_now V) x = true ∧ isRd y = true ∧ s_jok (v_now V) (tN x) = -6 ∧ isOp (v_now V) (tN y) = true ∧ hasS (v_now V) (tN x) (tN y) = false := by
  unfold jokE at h
  by_cases c0 : isTm (v_now V) x = false
  · rw [if_pos c0] at h; exact absurd h (by decide)
  rw [if_neg c0] at h
  by_cases c1 : isRd y = false
  · rw [if_pos c1] at h; exact absurd h (by decide)
  rw [if_neg c1] at h
  by_cases c2 : ¬ s_jok (v_now V) (tN x) = -6
  · rw [if_pos c2] at h; exact absurd h (by decide)
  rw [if_neg c2] at h
  by_cases c3 : isOp (v_now V) (tN y) = false
  · rw [if_pos c3] at h; exact absurd h (by decide)
  rw [if_neg c3] at h
  by_cases c4 : hasS (v_now V) (tN x) (tN y) = true
  · rw [if_pos c4] at h; exact absurd h (by decide)
  rw [if_neg c4] at h
  exact ⟨bool_t c0, bool_t c1, Classical.byContradiction c2, bool_t c3, bool_f c4⟩
theorem keyE_0 {V : q_CV} {y : Int32} (h : keyE V y = 0) : isRd y = true ∧ tkyP (v_pc V) (v_pl V) = true ∧ isOp (v_now V) (tN y) = true := by
  unfold keyE at h
  by_cases c0 : isRd y = false
  · rw [if_pos c0] at h; exact absurd h (by decide)
  rw [if_neg c0] at h
  by_cases c1 : tkyP (v_pc V) (v_pl V) = false
  · rw [if_pos c1] at h; exact absurd h (by decide)
  rw [if_neg c1] at h
  by_cases c2 : isOp (v_now V) (tN y) = false
  · rw [if_pos c2] at h; exact absurd h (by decide)
  rw [if_neg c2] at h
  exact ⟨bool_t c0, bool_t c1, bool_t c2⟩
theorem marE_0 {V : q_CV} {m x y k : Int32} (h : marE V m x y k = 0) : isTm (v_now V) m = true ∧ isTm (v_now V) x = true ∧ isRd y = true ∧ ¬ m = x ∧ ¬ k < -20 ∧ k ≤ 10 ∧ isOp (v_now V) (tN y) = false ∧ hasS (v_now V) (tN x) (tN y) = true ∧ tldS (v_now V) (tN x) (tN y) = false := by
  unfold marE at h
  by_cases c0 : isTm (v_now V) m = false
  · rw [if_pos c0] at h; exact absurd h (by decide)
  rw [if_neg c0] at h
  by_cases c1 : isTm (v_now V) x = false
  · rw [if_pos c1] at h; exact absurd h (by decide)
  rw [if_neg c1] at h
  by_cases c2 : isRd y = false
  · rw [if_pos c2] at h; exact absurd h (by decide)
  rw [if_neg c2] at h
  by_cases c3 : m = x
  · rw [if_pos c3] at h; exact absurd h (by decide)
  rw [if_neg c3] at h
  by_cases c4 : k < -20
  · rw [if_pos c4] at h; exact absurd h (by decide)
  rw [if_neg c4] at h
  by_cases c5 : ¬ k ≤ 10
  · rw [if_pos c5] at h; exact absurd h (by decide)
  rw [if_neg c5] at h
  by_cases c6 : isOp (v_now V) (tN y) = true
  · rw [if_pos c6] at h; exact absurd h (by decide)
  rw [if_neg c6] at h
  by_cases c7 : hasS (v_now V) (tN x) (tN y) = false
  · rw [if_pos c7] at h; exact absurd h (by decide)
  rw [if_neg c7] at h
  by_cases c8 : tldS (v_now V) (tN x) (tN y) = true
  · rw [if_pos c8] at h; exact absurd h (by decide)
  rw [if_neg c8] at h
  exact ⟨bool_t c0, bool_t c1, bool_t c2, c3, c4, Classical.byContradiction c5, bool_f c6, bool_t c7, bool_f c8⟩
theorem lokE_0 {V : q_CV} {x y : Int32} (h : lokE V x y = 0) : isTm (v_now V) x = true ∧ isRd y = true ∧ tldS (v_now V) (tN x) (tN y) = true ∧ lokS (v_now V) (tN x) (tN y) = false := by
  unfold lokE at h
  by_cases c0 : isTm (v_now V) x = false
  · rw [if_pos c0] at h; exact absurd h (by decide)
  rw [if_neg c0] at h
  by_cases c1 : isRd y = false
  · rw [if_pos c1] at h; exact absurd h (by decide)
  rw [if_neg c1] at h
  by_cases c2 : tldS (v_now V) (tN x) (tN y) = false
  · rw [if_pos c2] at h; exact absurd h (by decide)
  rw [if_neg c2] at h
  by_cases c3 : lokS (v_now V) (tN x) (tN y) = true
  · rw [if_pos c3] at h; exact absurd h (by decide)
  rw [if_neg c3] at h
  exact ⟨bool_t c0, bool_t c1, bool_t c2, bool_f c3⟩
theorem gueE_0 {V : q_CV} {x y : Int32} (h : gueE V x y = 0) : isTm (v_now V) x = true ∧ ¬ y < 0 ∧ y ≤ 9999 ∧ s_tru (v_now V) = -6 := by
  unfold gueE at h
  by_cases c0 : isTm (v_now V) x = false
  · rw [if_pos c0] at h; exact absurd h (by decide)
  rw [if_neg c0] at h
  by_cases c1 : y < 0
  · rw [if_pos c1] at h; exact absurd h (by decide)
  rw [if_neg c1] at h
  by_cases c2 : ¬ y ≤ 9999
  · rw [if_pos c2] at h; exact absurd h (by decide)
  rw [if_neg c2] at h
  by_cases c3 : ¬ s_tru (v_now V) = -6
  · rw [if_pos c3] at h; exact absurd h (by decide)
  rw [if_neg c3] at h
  exact ⟨bool_t c0, c1, Classical.byContradiction c2, Classical.byContradiction c3⟩
theorem truE_0 {V : q_CV} {y : Int32} (h : truE V y = 0) : ¬ y < 0 ∧ y ≤ 9999 ∧ s_tru (v_now V) = -6 := by
  unfold truE at h
  by_cases c0 : y < 0
  · rw [if_pos c0] at h; exact absurd h (by decide)
  rw [if_neg c0] at h
  by_cases c1 : ¬ y ≤ 9999
  · rw [if_pos c1] at h; exact absurd h (by decide)
  rw [if_neg c1] at h
  by_cases c2 : ¬ s_tru (v_now V) = -6
  · rw [if_pos c2] at h; exact absurd h (by decide)
  rw [if_neg c2] at h
  exact ⟨c0, Classical.byContradiction c1, Classical.byContradiction c2⟩
theorem setE_0 {x y : Int32} (h : setE x y = 0) : ¬ x < 0 ∧ ¬ (3 : Int32) < x ∧ ¬ y < leaS (tN x) ∧ y ≤ graS (tN x) := by
  unfold setE at h
  by_cases c0 : x < 0
  · rw [if_pos c0] at h; exact absurd h (by decide)
  rw [if_neg c0] at h
  by_cases c1 : (3 : Int32) < x
  · rw [if_pos c1] at h; exact absurd h (by decide)
  rw [if_neg c1] at h
  by_cases c2 : y < leaS (tN x)
  · rw [if_pos c2] at h; exact absurd h (by decide)
  rw [if_neg c2] at h
  by_cases c3 : ¬ y ≤ graS (tN x)
  · rw [if_pos c3] at h; exact absurd h (by decide)
  rw [if_neg c3] at h
  exact ⟨c0, c1, c2, Classical.byContradiction c3⟩
theorem resE_0 {V : q_CV} {x : Int32} (h : resE V x = 0) : isSl x = true ∧ ¬ v_sav V (tN x) = 0 := by
  unfold resE at h
  by_cases c0 : isSl x = false
  · rw [if_pos c0] at h; exact absurd h (by decide)
  rw [if_neg c0] at h
  by_cases c1 : v_sav V (tN x) = 0
  · rw [if_pos c1] at h; exact absurd h (by decide)
  rw [if_neg c1] at h
  exact ⟨bool_t c0, c1⟩
theorem putE_0 {V : q_CV} {x : Int64} (h : putE V x = 0) : ¬ chN x 0 8 = 0 ∧ v_pl V + chN x 0 8 ≤ 80 := by
  unfold putE at h
  by_cases c0 : chN x 0 8 = 0
  · rw [if_pos c0] at h; exact absurd h (by decide)
  rw [if_neg c0] at h
  by_cases c1 : ¬ v_pl V + chN x 0 8 ≤ 80
  · rw [if_pos c1] at h; exact absurd h (by decide)
  rw [if_neg c1] at h
  exact ⟨c0, Classical.byContradiction c1⟩
/-! look keeps the relation -/
theorem tmk_rg {S : q_St} {K : Nat} (ho : q_ok K S) (w key : Int64) (k : Nat) : rgI (tmk w key (s_set S 2) k) (-2) 1 := by
  obtain ⟨v, hv, e⟩ := ok_s2 ho
  unfold tmk
  rw [e]
  split
  · exact ⟨by decide, by decide⟩
  · split
    · exact ⟨by decide, by decide⟩
    · have : (-nI v).toInt = -(v : Int) := sb_negT (by omega)
      unfold rgI
      rw [this]
      omega
theorem truM_rg {S : q_St} {K : Nat} (ho : q_ok K S) (t r : Nat) : -20 ≤ (truM S t r).toInt ∧ (truM S t r).toInt ≤ 10 :=
  rg_acc (a := 0) (lo := 0) (hi := 0) (l := -2) (h := 1) (by unfold rgI; decide) (by decide) (by decide) 10 (fun k _ => tmk_rg ho _ _ k) (by decide) (by decide)
theorem up_c {f : Nat → Int32} {j k : Nat} {a b : Int32} (h : ¬ j = k) : upd (upd f j a) k b = upd (upd f k b) j a := by
  funext i
  unfold upd
  by_cases c : i = k
  · subst c
    rw [if_pos rfl, if_neg (fun q => h q.symm), if_pos rfl]
  · rw [if_neg c]
    split
    · rfl
    · rfl
theorem up_s {f : Nat → Int32} {j : Nat} {v : Int32} (h : f j = v) : upd f j v = f := by
  funext i
  unfold upd
  by_cases c : i = j
  · rw [if_pos c, c, h]
  · rw [if_neg c]
theorem ok_loku {S : q_St} {K : Nat} (ho : q_ok K S) {t r : Nat} (ht : t < s_n S) (hr : r < 8) (hT : tldS S t r = true) : q_ok K (u_loo S (upd (s_loo S) r (s_loo S r ||| ((1 : Int32) <<< (nI t &&& 31))))) := by
  refine ⟨?_, ?_, ?_, ?_, ?_, ?_, ?_, ?_, ?_, ?_, ?_, ?_, ?_⟩
  · exact ho.1
  · exact ho.2.1
  · exact ho.2.2.1
  · intro u q hu hq h
    have hn := ok_n ho
    by_cases e : q = r
    · subst e
      rw [lok_up (by omega) hu] at h
      by_cases e2 : u = t
      · subst e2; exact hT
      · rw [decide_eq_false e2, Bool.or_false] at h
        exact ok_lt ho hu hq h
    · rw [lok_un e] at h
      exact ok_lt ho hu hq h
  · intro q hq
    have hn := ok_n ho
    by_cases e : q = r
    · subst e
      show upd (s_loo S) q _ q = q_or _ (s_n S)
      rw [up_eq, ok_loo ho hq, q_or_b _ t _ ht]
      refine q_or_c (s_n S) fun u hu => ?_
      have e3 := lok_up (S := S) (r := q) (t := t) (u := u) (by omega) (by omega)
      rw [ok_loo ho hq, q_or_b _ t _ ht] at e3
      exact e3.symm
    · show upd (s_loo S) r _ q = q_or _ (s_n S)
      rw [up_ne e, ok_loo ho hq]
      exact q_or_c (s_n S) fun u _ => (lok_un e).symm
  · exact ho.2.2.2.2.2.1
  · exact ho.2.2.2.2.2.2.1
  · exact ho.2.2.2.2.2.2.2.1
  · exact ho.2.2.2.2.2.2.2.2.1
  · exact ho.2.2.2.2.2.2.2.2.2.1
  · exact ho.2.2.2.2.2.2.2.2.2.2.1
  · exact ho.2.2.2.2.2.2.2.2.2.2.2.1
  · exact ho.2.2.2.2.2.2.2.2.2.2.2.2
/-! places are unique: the reference's last is the class's first -/
theorem q_cnt_m {f g : Nat → Bool} : ∀ n : Nat, (∀ u, u < n → f u = true → g u = true) → q_cnt f n ≤ q_cnt g n
  | 0, _ => Nat.le_refl 0
  | n + 1, h => by
    have ih := q_cnt_m n fun u hu => h u (by omega)
    have h1 := h n (by omega)
    show q_cnt f n + (if f n = true then 1 else 0) ≤ q_cnt g n + (if g n = true then 1 else 0)
    by_cases c : f n = true
    · rw [if_pos c, if_pos (h1 c)]; omega
    · rw [if_neg c]; omega
theorem q_cnt_s {f g : Nat → Bool} {k : Nat} (h1 : f k = false) (h2 : g k = true) : ∀ n : Nat, k < n → (∀ u, u < n → f u = true → g u = true) → q_cnt f n < q_cnt g n
  | 0, h, _ => absurd h (by omega)
  | n + 1, hk, h => by
    show q_cnt f n + (if f n = true then 1 else 0) < q_cnt g n + (if g n = true then 1 else 0)
    by_cases e : k = n
    · subst e
      have ih := q_cnt_m k fun u hu => h u (by omega)
      rw [h2, h1, if_pos rfl, if_neg (by decide)]; omega
    · have ih := q_cnt_s h1 h2 n (by omega) fun u hu => h u (by omega)
      have h3 := h n (by omega)
      by_cases c : f n = true
      · rw [if_pos c, if_pos (h3 c)]; omega
      · rw [if_neg c]; omega
theorem q_cnt_o {f g : Nat → Bool} : ∀ n : Nat, (∀ u, u < n → f u = true → g u = false) → q_cnt (fun u => f u || g u) n = q_cnt f n + q_cnt g n
  | 0, _ => rfl
  | n + 1, h => by
    have ih := q_cnt_o n fun u hu => h u (by omega)
    have h1 := h n (by omega)
    show q_cnt (fun u => f u || g u) n + (if (f n || g n) = true then 1 else 0) = q_cnt f n + (if f n = true then 1 else 0) + (q_cnt g n + (if g n = true then 1 else 0))
    rw [ih]
    cases c : f n with
    | true => rw [h1 c]; simp; omega
    | false => cases g n <;> simp <;> omega
theorem q_cnt_t {g : Nat → Bool} {t : Nat} : ∀ n : Nat, t ≤ n → q_cnt (fun u => g u && decide (u < t)) n = q_cnt g t
  | 0, h => by have e : t = 0 := by omega
               subst e; rfl
  | n + 1, h => by
    by_cases e : t = n + 1
    · subst e
      exact q_cnt_e (n + 1) fun u hu => by rw [decide_eq_true hu, Bool.and_true]
    · show q_cnt (fun u => g u && decide (u < t)) n + (if (g n && decide (n < t)) = true then 1 else 0) = _
      rw [q_cnt_t n (by omega), decide_eq_false (by omega), Bool.and_false, if_neg (by decide), Nat.add_zero]
/-- what a team is ranked by -/
def lexB (S : q_St) (o t : Nat) : Prop := (scoS S t).toInt < (scoS S o).toInt ∨ ((scoS S t).toInt = (scoS S o).toInt ∧ (distS S o).toInt < (distS S t).toInt)
theorem ahe_iff {S : q_St} {K : Nat} (ho : q_ok K S) (hK : K ≤ 512) {o t : Nat} (h1 : o < 10) (h2 : t < 10) : aheS S o t = true ↔ lexB S o t := by
  unfold lexB
  by_cases c : scoS S t < scoS S o
  · rw [ahe_1 ho hK h1 h2 c]
    exact ⟨fun _ => Or.inl (Int32.lt_iff_toInt_lt.mp c), fun _ => rfl⟩
  · have c' : ¬ (scoS S t).toInt < (scoS S o).toInt := fun q => c (Int32.lt_iff_toInt_lt.mpr q)
    by_cases d : scoS S o = scoS S t
    · rw [ahe_3 ho hK h1 h2 c d]
      have d2 : (scoS S t).toInt = (scoS S o).toInt := by rw [d]
      have e : (distS S t ≤ distS S o) ↔ (distS S t).toInt ≤ (distS S o).toInt := Int32.le_iff_toInt_le
      simp only [Bool.not_eq_true', decide_eq_false_iff_not, e]
      omega
    · rw [ahe_2 ho hK h1 h2 c d]
      have d2 : ¬ (scoS S t).toInt = (scoS S o).toInt := fun q => d (Int32.toInt_inj.mp q).symm
      refine ⟨fun q => (by cases q), fun q => ?_⟩
      omega
def bfr (S : q_St) (t o : Nat) : Bool := aheS S o t || (tie1 S t o && decide (o < t))
theorem bfr_iff {S : q_St} {K : Nat} (ho : q_ok K S) (hK : K ≤ 512) {o t : Nat} (h1 : o < 10) (h2 : t < 10) : bfr S t o = true ↔ (lexB S o t ∨ (¬ lexB S t o ∧ o < t)) := by
  have e1 := ahe_iff ho hK h1 h2
  have e2 := ahe_iff ho hK h2 h1
  unfold bfr tie1
  rw [Bool.or_eq_true, Bool.and_eq_true, Bool.and_eq_true, Bool.and_eq_true, e1]
  simp only [Bool.not_eq_true', decide_eq_true_eq, decide_eq_false_iff_not]
  constructor
  · rintro (h | ⟨⟨⟨h3, h4⟩, h5⟩, h6⟩)
    · exact Or.inl h
    · exact Or.inr ⟨fun q => (by rw [e2.mpr q] at h5; cases h5), h6⟩
  · rintro (h | ⟨h3, h4⟩)
    · exact Or.inl h
    · by_cases q : lexB S o t
      · exact Or.inl q
      · exact Or.inr ⟨⟨⟨fun z => (by have := (nI_eq (by omega) (by omega)).mp z; omega), bool_f fun z => q (e1.mp z)⟩, bool_f fun z => h3 (e2.mp z)⟩, h4⟩
theorem plc_cnt {S : q_St} {K : Nat} (ho : q_ok K S) (hK : K ≤ 512) {t : Nat} (ht : t < s_n S) : plcS S t = nI (q_cnt (bfr S t) (s_n S)) := by
  have hn := ok_n ho
  unfold plcS rnkS
  have e1 : q_cnt (bfr S t) (s_n S) = q_cnt (fun o => aheS S o t) (s_n S) + q_cnt (tie1 S t) t := by
    rw [← q_cnt_t (g := tie1 S t) (t := t) (s_n S) (by omega)]
    exact q_cnt_o (s_n S) fun u hu h => by
      have h2 : tie1 S t u = false := by unfold tie1; rw [h]; simp
      rw [h2]; rfl
  rw [e1, ← nI_1, Int32.add_sub_cancel, nI_add]
theorem plc_in {S : q_St} {K : Nat} (ho : q_ok K S) (hK : K ≤ 512) {t u : Nat} (ht : t < s_n S) (hu : u < s_n S) (h : plcS S t = plcS S u) : t = u := by
  have hn := ok_n ho
  have key : ∀ p q : Nat, p < s_n S → q < s_n S → bfr S q p = true → q_cnt (bfr S p) (s_n S) < q_cnt (bfr S q) (s_n S) := by
    intro p q hp hq hb
    have hb2 := (bfr_iff ho hK (o := p) (t := q) (by omega) (by omega)).mp hb
    refine q_cnt_s (k := p) (bool_f fun z => ?_) hb (s_n S) hp fun o hO z => ?_
    · have z2 := (bfr_iff ho hK (o := p) (t := p) (by omega) (by omega)).mp z
      unfold lexB at z2
      omega
    · have z2 := (bfr_iff ho hK (o := o) (t := p) (by omega) (by omega)).mp z
      refine (bfr_iff ho hK (o := o) (t := q) (by omega) (by omega)).mpr ?_
      unfold lexB at z2 hb2 ⊢
      omega
  rw [plc_cnt ho hK ht, plc_cnt ho hK hu] at h
  have b1 := q_cnt_le (bfr S t) (s_n S)
  have b2 := q_cnt_le (bfr S u) (s_n S)
  have h := (nI_eq (by omega) (by omega)).mp h
  rcases Nat.lt_trichotomy t u with c | c | c
  · by_cases q : bfr S u t = true
    · have := key t u ht hu q; omega
    · have q2 : bfr S t u = true := by
        have q3 : ¬ (lexB S t u ∨ (¬ lexB S u t ∧ t < u)) := fun z => q ((bfr_iff ho hK (o := t) (t := u) (by omega) (by omega)).mpr z)
        refine (bfr_iff ho hK (o := u) (t := t) (by omega) (by omega)).mpr ?_
        unfold lexB at q3 ⊢
        omega
      have := key u t hu ht q2; omega
  · exact c
  · by_cases q : bfr S t u = true
    · have := key u t hu ht q; omega
    · have q2 : bfr S u t = true := by
        have q3 : ¬ (lexB S u t ∨ (¬ lexB S t u ∧ u < t)) := fun z => q ((bfr_iff ho hK (o := u) (t := t) (by omega) (by omega)).mpr z)
        refine (bfr_iff ho hK (o := t) (t := u) (by omega) (by omega)).mpr ?_
        unfold lexB at q3 ⊢
        omega
      have := key t u ht hu q2; omega
theorem lasF_n {S : q_St} {x : Int32} : ∀ n : Nat, (∀ u, u < n → ¬ plcS S u = x) → lasF S x n = -1
  | 0, _ => rfl
  | n + 1, h => by
    show (if plcS S n = x then nI n else lasF S x n) = -1
    rw [if_neg (h n (by omega)), lasF_n n fun u hu => h u (by omega)]
theorem lasF_t {S : q_St} {x : Int32} {t : Nat} (h : plcS S t = x) : ∀ n : Nat, t < n → (∀ u, u < n → plcS S u = x → u = t) → lasF S x n = nI t
  | 0, h, _ => absurd h (by omega)
  | n + 1, hn, hu => by
    show (if plcS S n = x then nI n else lasF S x n) = nI t
    by_cases e : plcS S n = x
    · rw [if_pos e, hu n (by omega) e]
    · have : ¬ t = n := fun q => e (q ▸ h)
      rw [if_neg e, lasF_t h n (by omega) fun u hu2 => hu u (by omega)]
theorem at_eq {V : q_CV} {K : Nat} (ho : q_ok K (v_now V)) (hK : K ≤ 512) (x : Int32) : atR V x = lasF (v_now V) x (s_n (v_now V)) := by
  have hn := ok_n ho
  unfold atR
  by_cases c : lead (at_f (v_now V) x) (s_n (v_now V)) = s_n (v_now V)
  · rw [if_pos c]
    refine (lasF_n (s_n (v_now V)) fun u hu => ?_).symm
    have := lead_all c u hu
    unfold at_f at this
    simpa using this
  · rw [if_neg c]
    have hle := lead_le (at_f (v_now V) x) (s_n (v_now V))
    have ex : ∃ i, i < s_n (v_now V) ∧ lead (at_f (v_now V) x) (s_n (v_now V)) = i ∧ at_f (v_now V) x i = false := by
      have key : ∀ n, ¬ lead (at_f (v_now V) x) n = n → ∃ i, i < n ∧ lead (at_f (v_now V) x) n = i ∧ at_f (v_now V) x i = false := by
        intro n
        induction n with
        | zero => intro h; exact absurd rfl h
        | succ n ih =>
          intro h
          by_cases d : lead (at_f (v_now V) x) n = n
          · by_cases f : at_f (v_now V) x n = true
            · exact absurd (lead_s d f) h
            · exact ⟨n, by omega, lead_stop d (bool_f f) (by omega), bool_f f⟩
          · obtain ⟨i, h1, h2, h3⟩ := ih d
            refine ⟨i, by omega, ?_, h3⟩
            unfold lead
            rw [if_neg (fun q => d q.1), h2]
      exact key _ c
    obtain ⟨i, h1, h2, h3⟩ := ex
    have h4 : plcS (v_now V) i = x := by unfold at_f at h3; simpa using h3
    rw [h2]
    exact (lasF_t h4 (s_n (v_now V)) h1 fun u hu h5 => plc_in ho hK hu h1 (h5.trans h4.symm)).symm
