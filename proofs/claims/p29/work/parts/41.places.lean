/-! places of teams, and who stands at one -/
def w_P (S : q_St) (t : Nat) : Nat := q_cnt (bfr S t) (s_n S)
theorem w_Pp {S : q_St} {K : Nat} (ho : q_ok K S) (hK : K ≤ 512) {t : Nat} (ht : t < s_n S) : plcS S t = nI (w_P S t) := plc_cnt ho hK ht
theorem w_P_lt {S : q_St} {K : Nat} (ho : q_ok K S) (hK : K ≤ 512) {t : Nat} (ht : t < s_n S) : w_P S t < s_n S := by
  have hn := ok_n ho
  have h0 : bfr S t t = false := bool_f fun z => by
    have z2 := (bfr_iff ho hK (o := t) (t := t) (by omega) (by omega)).mp z
    unfold lexB at z2
    omega
  have h := q_cnt_s (f := bfr S t) (g := fun _ => true) h0 rfl (s_n S) ht fun _ _ _ => rfl
  rw [w_tt] at h
  exact h
theorem w_P_in {S : q_St} {K : Nat} (ho : q_ok K S) (hK : K ≤ 512) {t u : Nat} (ht : t < s_n S) (hu : u < s_n S) (h : w_P S t = w_P S u) : t = u :=
  plc_in ho hK ht hu (by rw [w_Pp ho hK ht, w_Pp ho hK hu, h])
theorem w_P_s {S : q_St} {K : Nat} (ho : q_ok K S) (hK : K ≤ 512) {p q : Nat} (hp : p < s_n S) (hq : q < s_n S) (hb : bfr S q p = true) : w_P S p < w_P S q := by
  have hn := ok_n ho
  have hb2 := (bfr_iff ho hK (o := p) (t := q) (by omega) (by omega)).mp hb
  refine q_cnt_s (k := p) (bool_f fun z => ?_) hb (s_n S) hp fun o hO z => ?_
  · have z2 := (bfr_iff ho hK (o := p) (t := p) (by omega) (by omega)).mp z
    unfold lexB at z2
    omega
  · have z2 := (bfr_iff ho hK (o := o) (t := p) (by omega) (by omega)).mp z
    refine (bfr_iff ho hK (o := o) (t := q) (by omega) (by omega)).mpr ?_
    unfold lexB at z2 hb2 ⊢
    omega
theorem w_at_no {V : q_CV} {K : Nat} (ho : q_ok K (v_now V)) (hK : K ≤ 512) {x : Int32} (h : ∀ j, j < s_n (v_now V) → ¬ nI j = x) : atR V x = -1 := by
  rw [at_eq ho hK x]
  exact lasF_n (s_n (v_now V)) fun u hu q => h (w_P (v_now V) u) (w_P_lt ho hK hu) (by rw [← w_Pp ho hK hu, q])
theorem w_at {V : q_CV} {K : Nat} (ho : q_ok K (v_now V)) (hK : K ≤ 512) {p : Nat} (hp : p < s_n (v_now V)) : ∃ t, t < s_n (v_now V) ∧ w_P (v_now V) t = p ∧ atR V (nI p) = nI t := by
  have hn := ok_n ho
  obtain ⟨t, h1, h2⟩ := w_sur (f := w_P (v_now V)) (fun t u ht hu h => w_P_in ho hK ht hu h) (fun t ht => w_P_lt ho hK ht) hp
  refine ⟨t, h1, h2, ?_⟩
  rw [at_eq ho hK]
  refine lasF_t (by rw [w_Pp ho hK h1, h2]) (s_n (v_now V)) h1 fun u hu q => ?_
  rw [w_Pp ho hK hu, nI_eq (by have := w_P_lt ho hK hu; omega) (by omega)] at q
  exact w_P_in ho hK hu h1 (q.trans h2.symm)
theorem w_at_n {V : q_CV} {K : Nat} (ho : q_ok K (v_now V)) (hK : K ≤ 512) : atR V (nI (s_n (v_now V))) = -1 := by
  have hn := ok_n ho
  exact w_at_no ho hK fun j hj q => by have := (nI_eq (by omega) (by omega)).mp q; omega
theorem w_at_m {V : q_CV} {K : Nat} (ho : q_ok K (v_now V)) (hK : K ≤ 512) : atR V (-1) = -1 := by
  have hn := ok_n ho
  refine w_at_no ho hK fun j hj q => ?_
  have h := congrArg Int32.toInt q
  have e : (-1 : Int32).toInt = -1 := by decide
  rw [nI_toInt (by omega), e] at h
  omega
theorem w_rnk {S : q_St} {K : Nat} (ho : q_ok K S) (hK : K ≤ 512) {t u : Nat} (ht : t < s_n S) (hu : u < s_n S) (h : w_P S u < w_P S t) : rnkS S u ≤ rnkS S t := by
  have hn := ok_n ho
  have h1 : ¬ lexB S t u := fun z => by
    have := w_P_s ho hK ht hu ((bfr_iff ho hK (o := t) (t := u) (by omega) (by omega)).mpr (Or.inl z))
    omega
  unfold rnkS
  refine Nat.add_le_add_right (q_cnt_m (s_n S) fun o hO z => ?_) 1
  have z2 := (ahe_iff ho hK (o := o) (t := u) (by omega) (by omega)).mp z
  refine (ahe_iff ho hK (o := o) (t := t) (by omega) (by omega)).mpr ?_
  unfold lexB at z2 h1 ⊢
  omega
/-- the teams at the first places, as the law gathers them -/
def w_all (V : q_CV) : Nat → Int32
  | 0 => 0
  | n + 1 => w_all V n ||| ((1 : Int32) <<< (atR V (nI n) &&& 31))
theorem w_all_p {V : q_CV} {K : Nat} (ho : q_ok K (v_now V)) (hK : K ≤ 512) : ∀ p : Nat, p ≤ s_n (v_now V) → w_all V p = q_or (fun t => decide (w_P (v_now V) t < p)) (s_n (v_now V))
  | 0, _ => by
    have e : ∀ n : Nat, q_or (fun t => decide (w_P (v_now V) t < 0)) n = 0 := by
      intro n
      induction n with
      | zero => rfl
      | succ n ih =>
        show q_or (fun t => decide (w_P (v_now V) t < 0)) n ||| (if decide (w_P (v_now V) n < 0) = true then (1 : Int32) <<< (nI n &&& 31) else 0) = 0
        rw [if_neg (by rw [decide_eq_false (Nat.not_lt_zero _)]; decide), ih]
        decide
    exact (e _).symm
  | p + 1, h => by
    obtain ⟨t, h1, h2, h3⟩ := w_at ho hK (p := p) (by omega)
    show w_all V p ||| ((1 : Int32) <<< (atR V (nI p) &&& 31)) = _
    rw [w_all_p ho hK p (by omega), h3, q_or_b _ t (s_n (v_now V)) h1]
    refine q_or_c (s_n (v_now V)) fun u hu => ?_
    refine Bool.eq_iff_iff.mpr ?_
    simp only [Bool.or_eq_true, decide_eq_true_eq]
    constructor
    · rintro (q | q)
      · omega
      · rw [q, h2]; omega
    · intro q
      rcases Nat.lt_or_ge (w_P (v_now V) u) p with c | c
      · exact Or.inl c
      · exact Or.inr (w_P_in ho hK hu h1 (by omega))
theorem w_ones : ∀ n : Fin 11, q_or (fun _ => true) n.val = ((1 : Int32) <<< (nI n.val &&& 31)) - 1 := by decide +kernel
theorem w_all_n {V : q_CV} {K : Nat} (ho : q_ok K (v_now V)) (hK : K ≤ 512) : w_all V (s_n (v_now V)) = ((1 : Int32) <<< (nI (s_n (v_now V)) &&& 31)) - 1 := by
  have hn := ok_n ho
  rw [w_all_p ho hK _ (Nat.le_refl _), ← w_ones ⟨s_n (v_now V), by omega⟩]
  exact q_or_c _ fun u hu => decide_eq_true (w_P_lt ho hK hu)
/-! one bit of a set -/
theorem w_bit0 : ∀ n : Fin 10, ∀ m : Fin (2 ^ n.val), ∀ t : Fin 10, (t.val < n.val → (nI (m.val + 2 ^ n.val) >>> (nI t.val &&& 31)) &&& 1 = (nI m.val >>> (nI t.val &&& 31)) &&& 1) ∧ (nI (m.val + 2 ^ n.val) >>> (nI n.val &&& 31)) &&& 1 = 1 ∧ (nI m.val >>> (nI n.val &&& 31)) &&& 1 = 0 := by decide +kernel
theorem w_bit (f : Nat → Bool) {t : Nat} : ∀ n : Nat, t < n → n ≤ 10 → (q_or f n >>> (nI t &&& 31)) &&& 1 = bI (f t)
  | 0, h, _ => absurd h (Nat.not_lt_zero t)
  | n + 1, h, hn => by
    obtain ⟨m, h1, h2, -⟩ := q_orN f n (by omega)
    have hb := w_bit0 ⟨n, by omega⟩ ⟨m, h1⟩ ⟨t, by omega⟩
    by_cases c : f n = true
    · have e : q_or f (n + 1) = nI (m + 2 ^ n) := by simp only [q_or, c, if_true, h2]; exact (q_bits ⟨n, by omega⟩ ⟨m, h1⟩).1
      rw [e]
      rcases Nat.lt_or_ge t n with d | d
      · exact (hb.1 d).trans (by rw [← h2]; exact w_bit f n d (by omega))
      · have e2 : t = n := by omega
        subst e2
        rw [c]; exact hb.2.1
    · have e : q_or f (n + 1) = q_or f n := by simp [q_or, c]
      rw [e]
      rcases Nat.lt_or_ge t n with d | d
      · exact w_bit f n d (by omega)
      · have e2 : t = n := by omega
        subst e2
        rw [h2, bool_f c]; exact hb.2.2
