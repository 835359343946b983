/-! counting: places, sums -/
theorem w_tt : ∀ n : Nat, q_cnt (fun _ => true) n = n
  | 0 => rfl
  | n + 1 => by
    show q_cnt (fun _ => true) n + (if true = true then 1 else 0) = n + 1
    rw [w_tt n, if_pos rfl]
theorem w_ff : ∀ n : Nat, q_cnt (fun _ => false) n = 0
  | 0 => rfl
  | n + 1 => by
    show q_cnt (fun _ => false) n + (if false = true then 1 else 0) = 0
    rw [w_ff n, if_neg (by decide)]
theorem w_cz {f : Nat → Bool} {n : Nat} (h : ∀ u, u < n → f u = false) : q_cnt f n = 0 := by
  rw [← w_ff n]
  exact q_cnt_e n h
theorem w_ct {f : Nat → Bool} {n : Nat} (h : ∀ u, u < n → f u = true) : q_cnt f n = n :=
  (q_cnt_e n h).trans (w_tt n)
theorem w_one {f : Nat → Nat} {m : Nat} : ∀ n : Nat, (∀ t u, t < n → u < n → f t = f u → t = u) → q_cnt (fun t => decide (f t = m)) n ≤ 1
  | 0, _ => Nat.zero_le 1
  | n + 1, h => by
    have ih := w_one (f := f) (m := m) n fun t u ht hu => h t u (by omega) (by omega)
    show q_cnt (fun t => decide (f t = m)) n + (if decide (f n = m) = true then 1 else 0) ≤ 1
    by_cases c : f n = m
    · have z : q_cnt (fun t => decide (f t = m)) n = 0 := w_cz fun u hu => decide_eq_false fun q => by
        have := h u n (by omega) (by omega) (q.trans c.symm); omega
      rw [z, if_pos (decide_eq_true c)] <;> omega
    · rw [if_neg (by rw [decide_eq_false c]; decide)] <;> omega
theorem w_cs {f : Nat → Nat} {n m : Nat} : q_cnt (fun t => decide (f t < m + 1)) n = q_cnt (fun t => decide (f t < m)) n + q_cnt (fun t => decide (f t = m)) n := by
  refine (q_cnt_e n fun u _ => ?_).trans (q_cnt_o n fun u _ h => ?_)
  · exact Bool.eq_iff_iff.mpr (by simp only [Bool.or_eq_true, decide_eq_true_eq]; omega)
  · exact decide_eq_false (by have := of_decide_eq_true h; omega)
theorem w_sur {f : Nat → Nat} {n p : Nat} (hi : ∀ t u, t < n → u < n → f t = f u → t = u) (hl : ∀ t, t < n → f t < n) (hp : p < n) : ∃ t, t < n ∧ f t = p := by
  refine Classical.byContradiction fun hc => ?_
  have h0 : q_cnt (fun t => decide (f t = p)) n = 0 := w_cz fun u hu => decide_eq_false fun q => hc ⟨u, hu, q⟩
  have k1 : ∀ m : Nat, q_cnt (fun t => decide (f t < m)) n ≤ m := by
    intro m
    induction m with
    | zero =>
      have e : q_cnt (fun t => decide (f t < 0)) n = 0 := w_cz fun u hu => decide_eq_false (Nat.not_lt_zero _)
      omega
    | succ m ih =>
      have e := w_cs (f := f) (n := n) (m := m)
      have e1 := w_one (f := f) (m := m) n hi
      omega
  have k2 : ∀ j : Nat, q_cnt (fun t => decide (f t < p + 1 + j)) n + 1 ≤ p + 1 + j := by
    intro j
    induction j with
    | zero =>
      have e := w_cs (f := f) (n := n) (m := p)
      have e1 := k1 p
      show q_cnt (fun t => decide (f t < p + 1)) n + 1 ≤ p + 1
      omega
    | succ j ih =>
      have e := w_cs (f := f) (n := n) (m := p + 1 + j)
      have e1 := w_one (f := f) (m := p + 1 + j) n hi
      show q_cnt (fun t => decide (f t < p + 1 + j + 1)) n + 1 ≤ p + 1 + j + 1
      omega
  have h := k2 (n - (p + 1))
  rw [show p + 1 + (n - (p + 1)) = n from by omega, w_ct fun u hu => decide_eq_true (hl u hu)] at h
  omega
def w_sum (f : Nat → Nat) : Nat → Nat
  | 0 => 0
  | n + 1 => w_sum f n + f n
theorem w_sum_e {f g : Nat → Nat} : ∀ n : Nat, (∀ k, k < n → f k = g k) → w_sum f n = w_sum g n
  | 0, _ => rfl
  | n + 1, h => by
    show w_sum f n + f n = w_sum g n + g n
    rw [w_sum_e n fun k hk => h k (by omega), h n (by omega)]
theorem w_sum_a (f g : Nat → Nat) : ∀ n : Nat, w_sum (fun k => f k + g k) n = w_sum f n + w_sum g n
  | 0 => rfl
  | n + 1 => by
    show w_sum (fun k => f k + g k) n + (f n + g n) = w_sum f n + f n + (w_sum g n + g n)
    rw [w_sum_a f g n]; omega
theorem w_sum_0 : ∀ n : Nat, w_sum (fun _ => 0) n = 0
  | 0 => rfl
  | n + 1 => w_sum_0 n
theorem w_sum_c (c : Nat) : ∀ n : Nat, w_sum (fun _ => c) n = n * c
  | 0 => (Nat.zero_mul c).symm
  | n + 1 => by
    show w_sum (fun _ => c) n + c = (n + 1) * c
    rw [w_sum_c c n, Nat.succ_mul]
theorem w_sum_lt (m : Nat) : ∀ n : Nat, n ≤ m → w_sum (fun i => if i < m then 1 else 0) n = n
  | 0, _ => rfl
  | n + 1, h => by
    show w_sum (fun i => if i < m then 1 else 0) n + (if n < m then 1 else 0) = n + 1
    rw [w_sum_lt m n (by omega), if_pos (show n < m from h)]
theorem w_sum_ge (m : Nat) : ∀ j : Nat, w_sum (fun i => if i < m then 1 else 0) (m + j) = m
  | 0 => w_sum_lt m m (Nat.le_refl m)
  | j + 1 => by
    show w_sum (fun i => if i < m then 1 else 0) (m + j) + (if m + j < m then 1 else 0) = m
    rw [w_sum_ge m j, if_neg (by omega), Nat.add_zero]
theorem w_sum_j (f : Nat → Nat) (a : Nat) : ∀ k : Nat, w_sum f (a + k) = w_sum f a + w_sum (fun j => f (a + j)) k
  | 0 => rfl
  | k + 1 => by
    show w_sum f (a + k) + f (a + k) = w_sum f a + (w_sum (fun j => f (a + j)) k + f (a + k))
    rw [w_sum_j f a k, Nat.add_assoc]
theorem w_sum_b {f : Nat → Nat} {M : Nat} : ∀ n : Nat, (∀ k, k < n → f k ≤ M) → w_sum f n ≤ n * M
  | 0, _ => Nat.zero_le _
  | n + 1, h => by
    have ih := w_sum_b (f := f) (M := M) n fun k hk => h k (by omega)
    have h1 := h n (by omega)
    show w_sum f n + f n ≤ (n + 1) * M
    rw [Nat.succ_mul]; omega
theorem w_shr (T : Nat) {k : Nat} (hk : 0 < k) : w_sum (fun i => T / k + (if i < T % k then 1 else 0)) k = T := by
  have h1 := Nat.div_add_mod T k
  have h2 := Nat.mod_lt T hk
  have h3 := w_sum_ge (T % k) (k - T % k)
  rw [show T % k + (k - T % k) = k from by omega] at h3
  rw [w_sum_a (fun _ => T / k) (fun i => if i < T % k then 1 else 0) k, w_sum_c, h3]
  exact h1
theorem w_cls {kf : Nat → Int} {z : Int} (g : Nat → Nat) : ∀ n : Nat, w_sum (fun t => if kf t = z then g (q_cnt (fun o => decide (kf o = z)) t) else 0) n = w_sum g (q_cnt (fun o => decide (kf o = z)) n)
  | 0 => rfl
  | n + 1 => by
    show w_sum (fun t => if kf t = z then g (q_cnt (fun o => decide (kf o = z)) t) else 0) n + (if kf n = z then g (q_cnt (fun o => decide (kf o = z)) n) else 0) = w_sum g (q_cnt (fun o => decide (kf o = z)) n + (if decide (kf n = z) = true then 1 else 0))
    rw [w_cls g n]
    by_cases c : kf n = z
    · rw [if_pos c, if_pos (decide_eq_true c)] <;> rfl
    · rw [if_neg c, if_neg (by rw [decide_eq_false c]; decide)] <;> rfl
/-- what one of a group gets: the group's places' prizes shared, what is left over to those of lower numbers -/
def w_get (kf : Nat → Int) (P : Nat → Nat) (n : Nat) (z : Int) (i : Nat) : Nat :=
  w_sum (fun j => P (q_cnt (fun o => decide (z < kf o)) n + j)) (q_cnt (fun o => decide (kf o = z)) n) / q_cnt (fun o => decide (kf o = z)) n + (if i < w_sum (fun j => P (q_cnt (fun o => decide (z < kf o)) n + j)) (q_cnt (fun o => decide (kf o = z)) n) % q_cnt (fun o => decide (kf o = z)) n then 1 else 0)
theorem w_prize {n B : Nat} {kf : Nat → Int} (hb : ∀ t, t < n → -(B : Int) < kf t ∧ kf t ≤ B) (P pr : Nat → Nat) (hpr : ∀ t, t < n → pr t = w_get kf P n (kf t) (q_cnt (fun o => decide (kf o = kf t)) t)) : w_sum pr n = w_sum P n := by
  have key : ∀ j : Nat, w_sum (fun t => if (B : Int) - j < kf t then pr t else 0) n = w_sum P (q_cnt (fun o => decide ((B : Int) - j < kf o)) n) := by
    intro j
    induction j with
    | zero =>
      have e1 : w_sum (fun t => if (B : Int) - (0 : Nat) < kf t then pr t else 0) n = 0 :=
        (w_sum_e n fun t ht => if_neg (by have := hb t ht; omega)).trans (w_sum_0 n)
      have e2 : q_cnt (fun o => decide ((B : Int) - (0 : Nat) < kf o)) n = 0 := w_cz fun t ht => decide_eq_false (by have := hb t ht; omega)
      rw [e1, e2]; rfl
    | succ j ih =>
      generalize hz : (B : Int) - (j : Nat) = z at ih
      have hz1 : (B : Int) - ((j + 1 : Nat) : Int) = z - 1 := by omega
      rw [hz1]
      have e1 : w_sum (fun t => if z - 1 < kf t then pr t else 0) n = w_sum (fun t => if z < kf t then pr t else 0) n + w_sum (fun t => if kf t = z then w_get kf P n z (q_cnt (fun o => decide (kf o = z)) t) else 0) n := by
        rw [← w_sum_a]
        refine w_sum_e n fun t ht => ?_
        by_cases c : kf t = z
        · rw [if_pos (show z - 1 < kf t by omega), if_neg (show ¬ z < kf t by omega), if_pos c, hpr t ht, c, Nat.zero_add]
        · by_cases d : z < kf t
          · rw [if_pos (show z - 1 < kf t by omega), if_pos d, if_neg c, Nat.add_zero]
          · rw [if_neg (show ¬ z - 1 < kf t by omega), if_neg d, if_neg c]
      have e2 : q_cnt (fun o => decide (z - 1 < kf o)) n = q_cnt (fun o => decide (z < kf o)) n + q_cnt (fun o => decide (kf o = z)) n := by
        refine (q_cnt_e n fun u _ => ?_).trans (q_cnt_o n fun u _ h => ?_)
        · exact Bool.eq_iff_iff.mpr (by simp only [Bool.or_eq_true, decide_eq_true_eq]; omega)
        · exact decide_eq_false (by have := of_decide_eq_true h; omega)
      rw [e1, e2, ih, w_cls (w_get kf P n z) n, w_sum_j]
      congr 1
      rcases Nat.eq_zero_or_pos (q_cnt (fun o => decide (kf o = z)) n) with k0 | k0
      · rw [k0]; rfl
      · exact w_shr _ k0
  have h := key (2 * B)
  have e1 : w_sum (fun t => if (B : Int) - (2 * B : Nat) < kf t then pr t else 0) n = w_sum pr n := w_sum_e n fun t ht => if_pos (by have := hb t ht; omega)
  have e2 : q_cnt (fun o => decide ((B : Int) - (2 * B : Nat) < kf o)) n = n := w_ct fun t ht => decide_eq_true (by have := hb t ht; omega)
  rw [e1, e2] at h
  exact h
