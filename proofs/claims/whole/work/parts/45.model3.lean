/-! what the reference's calls answer, by the class's words -/
theorem rds_6 {S : q_St} {t : Nat} : rds1 S t 6 = hasS S t := by funext r; simp [rds1]
theorem rds_7 {S : q_St} {t : Nat} : rds1 S t 7 = tldS S t := by funext r; simp [rds1]
theorem tem_1 {S : q_St} {r : Nat} : tem1 S r 1 = fun t => hasS S t r := by funext t; simp [tem1]
theorem tem_2 {S : q_St} {r : Nat} : tem1 S r 2 = fun t => decide (s_jok S t = nI r) := by funext t; simp [tem1]
theorem tem_3 {S : q_St} {r : Nat} : tem1 S r 3 = fun t => tldS S t r := by funext t; simp [tem1]
theorem tem_4 {S : q_St} {r : Nat} : tem1 S r 4 = fun t => lokS S t r := by funext t; simp [tem1]
theorem sht_of {S : q_St} {x y : Int32} (hn : s_n S ≤ 10) (h : shtS S x y = true) : ∃ t r : Nat, t < s_n S ∧ t < 10 ∧ r < 8 ∧ x = nI t ∧ y = nI r ∧ hasS S t r = true := by
  unfold shtS at h
  simp only [Bool.and_eq_true] at h
  obtain ⟨⟨h1, h2⟩, h3⟩ := h
  obtain ⟨t, ht, ht2, rfl⟩ := isTm_of hn h1
  obtain ⟨r, hr, rfl⟩ := isRd_of h2
  rw [tN_n (by omega), tN_n (by omega)] at h3
  exact ⟨t, r, ht, ht2, hr, rfl, rfl, h3⟩
theorem she_f {V : q_CV} {x y z : Int32} (h : shtS (v_now V) x y = false) : sheR V x y z = -1 := by
  unfold shtS at h
  unfold sheR
  cases c1 : isTm (v_now V) x with
  | false => rfl
  | true =>
    cases c2 : isRd y with
    | false => rfl
    | true =>
      cases c3 : hasS (v_now V) (tN x) (tN y) with
      | false => rfl
      | true => rw [c1, c2, c3] at h; cases h
theorem tld_f {S : q_St} {t r : Nat} (h : tldS S t r = false) : s_mkr S (t * 8 + r) = -6 := Classical.byContradiction fun q => by rw [tld_iff.mpr q] at h; cases h
theorem wro_t {S : q_St} {t r : Nat} (h : wroS S t r = true) : tldS S t r = true := by
  unfold wroS at h
  simp only [Bool.and_eq_true] at h
  exact h.1.1
theorem inQ_t {z : Int32} (h : inR z 0 9 = true) : ∃ k : Nat, k < 10 ∧ z = nI k := by
  simp only [inR, Bool.and_eq_true, Bool.not_eq_true', decide_eq_false_iff_not] at h
  obtain ⟨k, hk, rfl⟩ := nI_of h.1
  refine ⟨k, ?_, rfl⟩
  rcases Nat.lt_or_ge k 10 with q | q
  · exact q
  · exact absurd (nI_lt (a := 9) (by omega) hk) h.2
theorem inQ_f {z : Int32} (h : inR z 0 9 = false) : z < 0 ∨ (¬ z < 0 ∧ (10 : Int32) ≤ z) := by
  by_cases c : z < 0
  · exact Or.inl c
  · refine Or.inr ⟨c, ?_⟩
    obtain ⟨k, hk, rfl⟩ := nI_of c
    simp only [inR, decide_eq_false c, Bool.not_false, Bool.true_and, Bool.not_eq_false', decide_eq_true_eq] at h
    have := (nI_ltI (a := 9) (by decide) hk).mp h
    exact nI_le (a := 10) (by omega) hk
theorem anI_n {x : Int32} {d : Nat} (h : d ≤ 9) (e : x = nI d) : x = anI x := by
  have e2 : ¬ x = 15 := by rw [e]; exact fun q => by have := (nI_eq (a := d) (b := 15) (by omega) (by decide)).mp q; omega
  exact (if_neg e2).symm
theorem i32_s (a x y : Int32) : a + x - y = a + (x - y) := by
  simp only [Int32.sub_eq_add_neg]
  ac_rfl
theorem tru_t {S : q_St} (h : (!decide (s_tru S = -6)) = true) : ¬ s_tru S = -6 := by simpa using h
theorem tru_f {S : q_St} (h : (!decide (s_tru S = -6)) = false) : s_tru S = -6 := by simpa using h
theorem anw_f {V : q_CV} {x y z : Int32} (h : ¬ x = -6) (h2 : shtS (v_now V) x y = false) : anwR V x y z = -1 := by
  unfold shtS at h2
  unfold anwR
  rw [if_neg h]
  cases c1 : isTm (v_now V) x with
  | false => rfl
  | true =>
    cases c2 : isRd y with
    | false => rfl
    | true =>
      cases c3 : hasS (v_now V) (tN x) (tN y) with
      | false => rfl
      | true => rw [c1, c2, c3] at h2; cases h2
