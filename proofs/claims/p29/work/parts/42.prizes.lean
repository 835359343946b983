/-! the prizes of all teams together are the pot -/
/-- what else holds of every state that the law comes to -/
def q_px (S : q_St) : Prop := 3 ≤ s_n S ∧ (∀ t, t < 10 → ∃ v, v ≤ 100 ∧ s_paid S t = nI v) ∧ (∃ v, v ≤ 100 ∧ s_set S 0 = nI v) ∧ (∃ v, v ≤ 50 ∧ s_set S 1 = nI v)
theorem w_dist {S : q_St} {K : Nat} (ho : q_ok K S) {t : Nat} (ht : t < 10) : 0 ≤ (distS S t).toInt ∧ (distS S t).toInt ≤ 10000 := by
  by_cases h : s_tru S = -6
  · rw [dist_n h]
    exact ⟨by decide, by decide⟩
  · rcases dist_far ho h ht with ⟨v, hv, e, -⟩ | ⟨e, -⟩
    · rw [e, nI_toInt (by omega)]; omega
    · rw [e]
      exact ⟨by decide, by decide⟩
def w_kf (S : q_St) (t : Nat) : Int := (scoS S t).toInt * 20001 - (distS S t).toInt
theorem w_kb {S : q_St} {K : Nat} (ho : q_ok K S) (hK : K ≤ 512) {t : Nat} (ht : t < 10) : -((200000000 : Nat) : Int) < w_kf S t ∧ w_kf S t ≤ (200000000 : Nat) := by
  obtain ⟨h1, h2⟩ := rg_sco ho hK ht
  obtain ⟨h3, h4⟩ := w_dist ho ht
  unfold w_kf
  omega
theorem w_klt {S : q_St} {K : Nat} (ho : q_ok K S) {t o : Nat} (ht : t < 10) (h2 : o < 10) : lexB S o t ↔ w_kf S t < w_kf S o := by
  obtain ⟨h3, h4⟩ := w_dist ho ht
  obtain ⟨h5, h6⟩ := w_dist ho h2
  unfold w_kf lexB
  omega
theorem w_up {S : q_St} {K : Nat} (ho : q_ok K S) (hK : K ≤ 512) {t : Nat} (ht : t < s_n S) : q_cnt (fun o => aheS S o t) (s_n S) = q_cnt (fun o => decide (w_kf S t < w_kf S o)) (s_n S) := by
  have hn := ok_n ho
  refine q_cnt_e (s_n S) fun o hO => Bool.eq_iff_iff.mpr ?_
  rw [decide_eq_true_eq, ← w_klt ho (by omega) (by omega)]
  exact ahe_iff ho hK (by omega) (by omega)
theorem w_tie {S : q_St} {K : Nat} (ho : q_ok K S) (hK : K ≤ 512) {t o : Nat} (ht : t < s_n S) (h2 : o < s_n S) : tie1 S t o = (decide (¬ o = t) && decide (w_kf S o = w_kf S t)) := by
  have hn := ok_n ho
  have e1 := ahe_iff ho hK (o := o) (t := t) (by omega) (by omega)
  have e2 := ahe_iff ho hK (o := t) (t := o) (by omega) (by omega)
  rw [w_klt ho (by omega) (by omega)] at e1 e2
  have e3 : (nI o = nI t) ↔ o = t := nI_eq (by omega) (by omega)
  unfold tie1
  refine Bool.eq_iff_iff.mpr ?_
  simp only [Bool.and_eq_true, Bool.not_eq_true', decide_eq_true_eq, decide_eq_false_iff_not, e3]
  constructor
  · rintro ⟨⟨h3, h4⟩, h5⟩
    refine ⟨h3, ?_⟩
    have h6 : ¬ w_kf S t < w_kf S o := fun q => by rw [e1.mpr q] at h4; cases h4
    have h7 : ¬ w_kf S o < w_kf S t := fun q => by rw [e2.mpr q] at h5; cases h5
    omega
  · rintro ⟨h3, h4⟩
    exact ⟨⟨h3, bool_f fun q => by have := e1.mp q; omega⟩, bool_f fun q => by have := e2.mp q; omega⟩
theorem w_shrN {S : q_St} {K : Nat} (ho : q_ok K S) (hK : K ≤ 512) {t : Nat} (ht : t < s_n S) : shrN S t = q_cnt (fun o => decide (w_kf S o = w_kf S t)) (s_n S) := by
  have h0 : tie1 S t t = false := by rw [w_tie ho hK ht ht, decide_eq_false (fun q => q rfl)]; rfl
  unfold shrN
  rw [← q_cnt_b (tie1 S t) t h0 (s_n S) ht]
  refine q_cnt_e (s_n S) fun o hO => ?_
  rw [w_tie ho hK ht hO]
  by_cases c : o = t
  · subst c
    rw [decide_eq_true (rfl : o = o), decide_eq_true (rfl : w_kf S o = w_kf S o), Bool.or_true]
  · rw [decide_eq_true c, decide_eq_false c, Bool.true_and, Bool.or_false]
theorem w_low {S : q_St} {K : Nat} (ho : q_ok K S) (hK : K ≤ 512) {t : Nat} (ht : t < s_n S) : q_cnt (tie1 S t) t = q_cnt (fun o => decide (w_kf S o = w_kf S t)) t := by
  refine q_cnt_e t fun o hO => ?_
  rw [w_tie ho hK ht (by omega), decide_eq_true (show ¬ o = t by omega), Bool.true_and]
def w_prz (p n x : Nat) : Nat := if x = 0 then p - (if n < 2 then 0 else p * 30 / 100) - (if n < 3 then 0 else p * 10 / 100) else if x = 1 then (if n < 2 then 0 else p * 30 / 100) else if x = 2 then (if n < 3 then 0 else p * 10 / 100) else 0
theorem w_prz_le (p n x : Nat) : w_prz p n x ≤ p := by
  unfold w_prz
  split
  · omega
  · split
    · split <;> omega
    · split
      · split <;> omega
      · omega
theorem w_prz_s (p : Nat) {n : Nat} (h : 3 ≤ n) : w_sum (w_prz p n) n = p := by
  have h3 : w_sum (w_prz p n) 3 = p := by
    show 0 + w_prz p n 0 + w_prz p n 1 + w_prz p n 2 = p
    unfold w_prz
    rw [if_pos rfl, if_neg (show ¬ n < 2 by omega), if_neg (show ¬ n < 3 by omega), if_neg (by decide), if_pos rfl, if_neg (by decide), if_neg (by decide), if_pos rfl]
    omega
  have h4 : ∀ j : Nat, w_sum (w_prz p n) (3 + j) = p := by
    intro j
    induction j with
    | zero => exact h3
    | succ j ih =>
      show w_sum (w_prz p n) (3 + j) + w_prz p n (3 + j) = p
      have e : w_prz p n (3 + j) = 0 := by
        unfold w_prz
        rw [if_neg (by omega), if_neg (by omega), if_neg (by omega)]
      rw [ih, e]; rfl
  have := h4 (n - 3)
  rwa [show 3 + (n - 3) = n from by omega] at this
theorem w_ent {S : q_St} (hp : q_px S) : ∀ n : Nat, n ≤ 10 → ∃ e, e ≤ n * 100 ∧ q_acc 0 (s_paid S) n = nI e
  | 0, _ => ⟨0, by omega, rfl⟩
  | n + 1, h => by
    obtain ⟨e, h1, h2⟩ := w_ent hp n (by omega)
    obtain ⟨v, h3, h4⟩ := hp.2.1 n (by omega)
    refine ⟨e + v, by omega, ?_⟩
    show q_acc 0 (s_paid S) n + s_paid S n = nI (e + v)
    rw [h2, h4, nI_add]
theorem w_pot {S : q_St} (hp : q_px S) (hn : s_n S ≤ 10) : ∃ p, p ≤ 1000 ∧ potS S = nI p := by
  obtain ⟨e, h1, h2⟩ := w_ent hp (s_n S) hn
  obtain ⟨v, h3, h4⟩ := hp.2.2.2
  have h5 : e * v ≤ 1000 * 50 := Nat.mul_le_mul (by omega) h3
  have h6 : e * v ≤ e * 50 := Nat.mul_le_mul_left e h3
  refine ⟨e - e * v / 100, by omega, ?_⟩
  unfold potS houS entS
  rw [h2, h4, pk_mul, show (100 : Int32) = nI 100 from rfl, pk_div (by omega) (by decide) (by decide), pk_sub (by omega)]
theorem w_prp {S : q_St} {p : Nat} (hp : p ≤ 1000) (e : potS S = nI p) (hn : s_n S ≤ 10) {x : Nat} (hx : x < 1000) : prpS S (nI (x + 1)) = nI (w_prz p (s_n S) x) := by
  have a1 : (nI (s_n S) < 2) ↔ s_n S < 2 := nI_ltI (b := 2) (by omega) (by decide)
  have a2 : (nI (s_n S) < 3) ↔ s_n S < 3 := nI_ltI (b := 3) (by omega) (by decide)
  have es : secS S = nI (if s_n S < 2 then 0 else p * 30 / 100) := by
    unfold secS
    rw [e]
    by_cases c : s_n S < 2
    · rw [if_pos (a1.mpr c), if_pos c]; rfl
    · rw [if_neg (fun q => c (a1.mp q)), if_neg c, show (30 : Int32) = nI 30 from rfl, show (100 : Int32) = nI 100 from rfl, pk_mul, pk_div (by omega) (by decide) (by decide)]
  have et : thiS S = nI (if s_n S < 3 then 0 else p * 10 / 100) := by
    unfold thiS
    rw [e]
    by_cases c : s_n S < 3
    · rw [if_pos (a2.mpr c), if_pos c]; rfl
    · rw [if_neg (fun q => c (a2.mp q)), if_neg c, show (10 : Int32) = nI 10 from rfl, show (100 : Int32) = nI 100 from rfl, pk_mul, pk_div (by omega) (by decide) (by decide)]
  have b1 : (nI (x + 1) = 1) ↔ x = 0 := (nI_eq (a := x + 1) (b := 1) (by omega) (by decide)).trans (by omega)
  have b2 : (nI (x + 1) = 2) ↔ x = 1 := (nI_eq (a := x + 1) (b := 2) (by omega) (by decide)).trans (by omega)
  have b3 : (nI (x + 1) = 3) ↔ x = 2 := (nI_eq (a := x + 1) (b := 3) (by omega) (by decide)).trans (by omega)
  unfold prpS w_prz
  rw [e, es, et]
  by_cases c1 : x = 0
  · rw [if_pos (b1.mpr c1), if_pos c1, pk_sub (by split <;> omega), pk_sub (by split <;> split <;> omega)]
  · rw [if_neg (fun q => c1 (b1.mp q)), if_neg c1]
    by_cases c2 : x = 1
    · rw [if_pos (b2.mpr c2), if_pos c2]
    · rw [if_neg (fun q => c2 (b2.mp q)), if_neg c2]
      by_cases c3 : x = 2
      · rw [if_pos (b3.mpr c3), if_pos c3]
      · rw [if_neg (fun q => c3 (b3.mp q)), if_neg c3]; rfl
theorem w_sumP {S : q_St} {p : Nat} (hp : p ≤ 1000) (e : potS S = nI p) (hn : s_n S ≤ 10) (t : Nat) : ∀ k : Nat, k ≤ 11 → sumP S t k = nI (w_sum (fun j => w_prz p (s_n S) (q_cnt (fun o => aheS S o t) (s_n S) + j)) k)
  | 0, _ => rfl
  | k + 1, h => by
    have h1 := q_cnt_le (fun o => aheS S o t) (s_n S)
    show sumP S t k + prpS S (nI (q_cnt (fun o => aheS S o t) (s_n S) + 1 + k)) = nI (w_sum _ k + w_prz p (s_n S) (q_cnt (fun o => aheS S o t) (s_n S) + k))
    rw [w_sumP hp e hn t k (by omega), show q_cnt (fun o => aheS S o t) (s_n S) + 1 + k = (q_cnt (fun o => aheS S o t) (s_n S) + k) + 1 from by omega, w_prp hp e hn (by omega), nI_add]
theorem w_przS {S : q_St} {K : Nat} (ho : q_ok K S) (hK : K ≤ 512) {p : Nat} (hp : p ≤ 1000) (e : potS S = nI p) {t : Nat} (ht : t < s_n S) : przS S t = nI (w_get (w_kf S) (w_prz p (s_n S)) (s_n S) (w_kf S t) (q_cnt (fun o => decide (w_kf S o = w_kf S t)) t)) := by
  have hn := ok_n ho
  have hs := q_cnt_le (tie1 S t) (s_n S)
  have hl := q_cnt_le (tie1 S t) t
  have hk : 0 < shrN S t := Nat.succ_pos _
  have hk2 : shrN S t ≤ 11 := by unfold shrN; omega
  have e1 := w_sumP hp e hn t (shrN S t) hk2
  have hb := w_sum_b (f := fun j => w_prz p (s_n S) (q_cnt (fun o => aheS S o t) (s_n S) + j)) (M := p) (shrN S t) fun k _ => w_prz_le p (s_n S) _
  have hb2 : shrN S t * p ≤ 11 * 1000 := Nat.mul_le_mul hk2 hp
  unfold przS w_get
  rw [e1, ← w_low ho hK ht, ← w_shrN ho hK ht, ← w_up ho hK ht]
  generalize w_sum (fun j => w_prz p (s_n S) (q_cnt (fun o => aheS S o t) (s_n S) + j)) (shrN S t) = T at hb ⊢
  generalize shrN S t = k at hk hk2 hb hb2 ⊢
  have hm : T % k < k := Nat.mod_lt T hk
  rw [pk_rem (by omega) hk (by omega), pk_div (by omega) hk (by omega), ← nI_add]
  congr 1
  by_cases c : q_cnt (tie1 S t) t < T % k
  · rw [if_pos c, if_neg (fun q => by have := (nI_leI (by omega) (by omega)).mp q; omega)]; rfl
  · rw [if_neg c, if_pos (nI_le (by omega) (by omega))]; rfl
theorem w_accN {f : Nat → Int32} {g : Nat → Nat} : ∀ n : Nat, (∀ k, k < n → f k = nI (g k)) → q_acc 0 f n = nI (w_sum g n)
  | 0, _ => rfl
  | n + 1, h => by
    show q_acc 0 f n + f n = nI (w_sum g n + g n)
    rw [w_accN n fun k hk => h k (by omega), h n (by omega), nI_add]
/-- what the document asks: all coins of the pot are given -/
theorem w_potP {S : q_St} {K : Nat} (ho : q_ok K S) (hK : K ≤ 512) (hp : q_px S) : q_acc 0 (przS S) (s_n S) = potS S := by
  have hn := ok_n ho
  obtain ⟨p, h1, h2⟩ := w_pot hp hn
  rw [w_accN (g := fun t => w_get (w_kf S) (w_prz p (s_n S)) (s_n S) (w_kf S t) (q_cnt (fun o => decide (w_kf S o = w_kf S t)) t)) (s_n S) fun t ht => w_przS ho hK h1 h2 ht]
  rw [w_prize (B := 200000000) (kf := w_kf S) (fun t ht => w_kb ho hK (by omega)) (w_prz p (s_n S)) _ (fun t _ => rfl), w_prz_s p hp.1, h2]
/-- behind the third rank there is no prize -/
theorem w_no4 {S : q_St} (hn : s_n S ≤ 10) {t : Nat} (ht : t < 10) (h : 3 < rnkS S t) : przS S t = 0 := by
  have h1 := q_cnt_le (fun o => aheS S o t) (s_n S)
  have hr : rnkS S t ≤ 11 := by unfold rnkS; omega
  have e : ∀ k : Nat, k ≤ 1000 → sumP S t k = 0 := by
    intro k
    induction k with
    | zero => intro _; rfl
    | succ k ih =>
      intro hk
      show sumP S t k + prpS S (nI (rnkS S t + k)) = 0
      have b1 : ¬ nI (rnkS S t + k) = 1 := fun q => by have := (nI_eq (a := rnkS S t + k) (b := 1) (by omega) (by decide)).mp q; omega
      have b2 : ¬ nI (rnkS S t + k) = 2 := fun q => by have := (nI_eq (a := rnkS S t + k) (b := 2) (by omega) (by decide)).mp q; omega
      have b3 : ¬ nI (rnkS S t + k) = 3 := fun q => by have := (nI_eq (a := rnkS S t + k) (b := 3) (by omega) (by decide)).mp q; omega
      unfold prpS
      rw [ih (by omega), if_neg b1, if_neg b2, if_neg b3]; decide
  have hs := q_cnt_le (tie1 S t) (s_n S)
  have hl := q_cnt_le (tie1 S t) t
  have hk : 0 < shrN S t := Nat.succ_pos _
  have hk2 : shrN S t ≤ 11 := by unfold shrN; omega
  have z : (0 : Int32) / nI (shrN S t) = 0 := by
    show nI 0 / nI (shrN S t) = nI 0
    rw [pk_div (by decide) hk (by omega), Nat.zero_div]
  have z2 : (0 : Int32) * nI (shrN S t) = 0 := by
    show nI 0 * nI (shrN S t) = nI 0
    rw [pk_mul, Nat.zero_mul]
  have z3 : (0 : Int32) - 0 = 0 := by decide
  unfold przS
  rw [e (shrN S t) (by omega), z, z2, z3, if_pos (nI_pos' (by omega))]
  decide
