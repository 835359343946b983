/-! ten signs in one number; a sheet handed in, a key told -/
theorem sg_n {m k : Nat} (hm : m < 2 ^ 64) (hk : k < 10) : sgn (lN m) k = nI (m / 2 ^ (4 * k) % 16) := by
  unfold sgn
  rw [show (4 : Int32) * nI k = nI (4 * k) from pk_mul 4 k, wb_shr hm (by omega), lN_i]
  show nI _ &&& nI 15 = _
  rw [nx_and', show (15 : Nat) = 2 ^ 4 - 1 from rfl, Nat.and_two_pow_sub_one_eq_mod]
theorem sg_p10 {n : Nat} (h : n ≤ 10) : 2 ^ (4 * n) ≤ 2 ^ 40 := Nat.pow_le_pow_right (by decide) (by omega)
theorem sg_w {m n d : Nat} (hm : m < 2 ^ (4 * n)) (hn : n < 10) (hd : d < 16) : wsg (lN m) n (nI d) = lN (m + d * 2 ^ (4 * n)) := by
  have h1 := sg_p10 (n := n) (by omega)
  have h2 : d * 2 ^ (4 * n) ≤ 15 * 2 ^ 40 := Nat.mul_le_mul (by omega) h1
  have h3 : 15 * 2 ^ 40 < 2 ^ 64 := Nat.le_of_ble_eq_true rfl
  have h4 : (2 : Nat) ^ 40 < 2 ^ 64 := Nat.le_of_ble_eq_true rfl
  unfold wsg
  rw [show (4 : Int32) * nI n = nI (4 * n) from pk_mul 4 n, nI_l (n := d) (by omega), wb_shl d (by omega), wb_or (Nat.lt_trans (Nat.lt_of_lt_of_le hm h1) h4) (Nat.lt_of_le_of_lt h2 h3)]
  rw [Nat.or_comm, Nat.mul_comm d, ← Nat.two_pow_add_eq_or_of_lt hm, Nat.add_comm]
theorem sgv_of (x : Int32) : ∃ d, d < 16 ∧ sgv x = nI d ∧ (isDg x = true → d ≤ 9 ∧ x - 48 = nI d) := by
  cases c : isDg x with
  | false =>
    refine ⟨15, by decide, ?_, fun h => by cases h⟩
    unfold sgv; rw [c]; rfl
  | true =>
    have h := c
    simp only [isDg, Bool.and_eq_true, Bool.not_eq_true', decide_eq_false_iff_not] at h
    obtain ⟨v, hv, rfl⟩ := nI_of (x := x) (fun q => h.1 (Int32.lt_of_lt_of_le q (by decide)))
    have h1 : 48 ≤ v := by
      rcases Nat.lt_or_ge v 48 with q | q
      · exact absurd (nI_lt (b := 48) q (by decide)) h.1
      · exact q
    have h2 : v ≤ 57 := by
      rcases Nat.lt_or_ge 57 v with q | q
      · exact absurd (nI_lt (a := 57) q hv) h.2
      · exact q
    have e : nI v - 48 = nI (v - 48) := pk_sub (b := 48) h1
    refine ⟨v - 48, by omega, ?_, fun _ => ⟨by omega, e⟩⟩
    unfold sgv; rw [c, if_pos rfl, e]
theorem sg_m (C : Nat → Int32) : ∀ n : Nat, n ≤ 10 → ∃ m, m < 2 ^ (4 * n) ∧ sigs C n = lN m ∧ ∀ k, k < n → nI (m / 2 ^ (4 * k) % 16) = sgv (C k)
  | 0, _ => ⟨0, by decide, rfl, fun k h => absurd h (Nat.not_lt_zero k)⟩
  | n + 1, h => by
    obtain ⟨m, h1, h2, h3⟩ := sg_m C n (by omega)
    obtain ⟨d, hd, hd2, -⟩ := sgv_of (C n)
    have hp : 2 ^ (4 * (n + 1)) = 2 ^ (4 * n) * 16 := by rw [show 4 * (n + 1) = 4 * n + 4 from by omega, Nat.pow_add]
    have hdp : d * 2 ^ (4 * n) ≤ 15 * 2 ^ (4 * n) := Nat.mul_le_mul_right _ (by omega)
    refine ⟨m + d * 2 ^ (4 * n), by omega, ?_, ?_⟩
    · show wsg (sigs C n) n (sgv (C n)) = _
      rw [h2, hd2, sg_w h1 (by omega) hd]
    · intro k hk
      rcases Nat.lt_or_ge k n with c | c
      · rw [← h3 k c]
        have e : d * 2 ^ (4 * n) = 2 ^ (4 * k) * (16 * (d * 2 ^ (4 * (n - k - 1)))) := by
          rw [show 4 * n = 4 * k + (4 + 4 * (n - k - 1)) from by omega, Nat.pow_add, Nat.pow_add, show (2 : Nat) ^ 4 = 16 from rfl]
          ac_rfl
        rw [e, Nat.add_mul_div_left _ _ (Nat.two_pow_pos _), Nat.add_mul_mod_self_left]
      · have e : k = n := by omega
        subst e
        rw [Nat.add_mul_div_right _ _ (Nat.two_pow_pos _), Nat.div_eq_of_lt h1, Nat.zero_add, Nat.mod_eq_of_lt hd, hd2]
theorem sg_k (C : Nat → Int32) {k : Nat} (hk : k < 10) : sgn (sigs C 10) k = sgv (C k) := by
  obtain ⟨m, h1, h2, h3⟩ := sg_m C 10 (Nat.le_refl 10)
  rw [h2, sg_n (Nat.lt_trans h1 (Nat.pow_lt_pow_right (by decide) (by decide))) hk, h3 k hk]
theorem sg_ne (C : Nat → Int32) : ¬ sigs C 10 = -1 := by
  obtain ⟨m, h1, h2, -⟩ := sg_m C 10 (Nat.le_refl 10)
  rw [h2]
  intro q
  have q := congrArg Int64.toInt q
  rw [pk_lT (Nat.lt_trans h1 (Nat.pow_lt_pow_right (by decide) (by decide))), show (-1 : Int64).toInt = -1 from by decide] at q
  omega
def hdv (x : Int32) : Int32 := if x = 45 then -1 else x - 48
theorem sgv_45 : sgv 45 = 15 := by decide
theorem hdv_an {x : Int32} (h : isSg x = true) : hdv x = anI (sgv x) := by
  by_cases c : x = 45
  · subst c; decide
  · have h2 : isDg x = true := by simpa [isSg, c] using h
    obtain ⟨d, -, e, k⟩ := sgv_of x
    obtain ⟨k1, k2⟩ := k h2
    unfold hdv
    rw [if_neg c, k2, e]
    exact anI_n k1 rfl
theorem sgv_sg {x : Int32} (h : isSg x = true) : sgv x = 15 ∨ ∃ d, d ≤ 9 ∧ sgv x = nI d := by
  by_cases c : x = 45
  · subst c; exact Or.inl sgv_45
  · have h2 : isDg x = true := by simpa [isSg, c] using h
    obtain ⟨d, -, e, k⟩ := sgv_of x
    exact Or.inr ⟨d, (k h2).1, e⟩
theorem sgv_dg {x : Int32} (h : isDg x = true) : ∃ d, d ≤ 9 ∧ sgv x = nI d := by
  obtain ⟨d, -, e, k⟩ := sgv_of x
  exact ⟨d, (k h).1, e⟩
theorem sgv_48 {x : Int32} (h : isDg x = true) : x - 48 = sgv x := by
  unfold sgv; rw [if_pos h]
theorem sgv_15 {x : Int32} (h : isSg x = true) : (¬ sgv x = 15) ↔ ¬ x = 45 := by
  by_cases c : x = 45
  · subst c; simp [sgv_45]
  · have h2 : isDg x = true := by simpa [isSg, c] using h
    obtain ⟨d, hd, e⟩ := sgv_dg h2
    rw [e]
    refine ⟨fun _ => c, fun _ q => ?_⟩
    have := (nI_eq (a := d) (b := 15) (by omega) (by decide)).mp q
    omega
theorem han_cnt {C : Nat → Int32} {S : q_St} {t r : Nat} (h : ∀ k, k < 10 → isSg (C k) = true) : q_cnt (fun k => !decide (C k = 45)) 10 = ansN (hanS S t r (sigs C 10)) t r := by
  unfold ansN
  rw [show s_she (hanS S t r (sigs C 10)) (t * 8 + r) = sigs C 10 from if_pos rfl]
  refine q_cnt_e 10 fun k hk => ?_
  unfold ans1
  rw [sg_k C hk]
  simp only [sgv_15 (h k hk)]
  simp
theorem ovl_o {B f : Nat → Int32} {o n k : Nat} (h : k < o ∨ o + n ≤ k) : ovl B f o n k = B k := if_neg (by omega)
theorem ovl_i {B f : Nat → Int32} {o n j : Nat} (h : j < n) : ovl B f o n (o + j) = f j := by
  unfold ovl
  rw [if_pos (by omega), Nat.add_sub_cancel_left]
theorem han_e {S : q_St} {t r : Nat} {w : Int64} (hw : ¬ w = -1) : hasS (hanS S t r w) t r = true := by
  show decide (¬ vp_updL (s_she S) (t * 8 + r) w (t * 8 + r) = -1) = true
  rw [show vp_updL (s_she S) (t * 8 + r) w (t * 8 + r) = w from if_pos rfl]
  exact decide_eq_true hw
theorem han_n {S : q_St} {t r u q : Nat} {w : Int64} (e : ¬ u * 8 + q = t * 8 + r) : hasS (hanS S t r w) u q = hasS S u q := by
  show decide (¬ vp_updL (s_she S) (t * 8 + r) w (u * 8 + q) = -1) = _
  rw [show vp_updL (s_she S) (t * 8 + r) w (u * 8 + q) = s_she S (u * 8 + q) from if_neg e]; rfl
theorem key_e {S : q_St} {r : Nat} {w : Int64} (hw : ¬ w = -1) : isOp (keyS S r w) r = false := by
  show decide (vp_updL (s_key S) r w r = -1) = false
  rw [show vp_updL (s_key S) r w r = w from if_pos rfl]
  exact decide_eq_false hw
theorem key_n {S : q_St} {r q : Nat} {w : Int64} (e : ¬ q = r) : isOp (keyS S r w) q = isOp S q := by
  show decide (vp_updL (s_key S) r w q = -1) = _
  rw [show vp_updL (s_key S) r w q = s_key S q from if_neg e]; rfl
theorem key_f {S : q_St} {r q : Nat} {w : Int64} (hw : ¬ w = -1) (h : isOp S q = false) : isOp (keyS S r w) q = false := by
  by_cases e : q = r
  · subst e; exact key_e hw
  · rw [key_n e]; exact h
theorem han_t {S : q_St} {t r u q : Nat} {w : Int64} (hw : ¬ w = -1) (h : hasS S u q = true) : hasS (hanS S t r w) u q = true := by
  by_cases e : u * 8 + q = t * 8 + r
  · show decide (¬ vp_updL (s_she S) (t * 8 + r) w (u * 8 + q) = -1) = true
    rw [e, show vp_updL (s_she S) (t * 8 + r) w (t * 8 + r) = w from if_pos rfl]
    exact decide_eq_true hw
  · rw [han_n e]; exact h

theorem cp_hanu {S : q_St} {f : Nat → Int32} (hc : q_cp S f) {t r : Nat} (ht : t < 10) (hr : r < 8) {w : Int64} (hw : ¬ w = -1) {g : Nat → Int32} (hg : ∀ k, k < 10 → g k = anI (sgn w k)) : q_cp (hanS S t r w) (ovl (upd f (136 + 15 * (t * 8 + r)) 1) g (136 + 15 * (t * 8 + r) + 5) 10) := by
  refine ⟨?_, ?_, ?_, ?_, ?_, ?_, ?_, ?_, ?_⟩
  · exact fun k hk => (ovl_o (by omega)).trans ((up_ne (by omega)).trans (hc.1 k hk))
  · exact (ovl_o (by omega)).trans ((up_ne (by omega)).trans (hc.2.1))
  · exact (ovl_o (by omega)).trans ((up_ne (by omega)).trans (hc.2.2.1))
  · exact fun h => (ovl_o (by omega)).trans ((up_ne (by omega)).trans (hc.2.2.2.1 h))
  · exact (ovl_o (by omega)).trans ((up_ne (by omega)).trans (hc.2.2.2.2.1))
  · exact fun q hq => (ovl_o (by omega)).trans ((up_ne (by omega)).trans (hc.2.2.2.2.2.1 q hq))
  · exact fun q hq h k hk => (ovl_o (by omega)).trans ((up_ne (by omega)).trans (hc.2.2.2.2.2.2.1 q hq h k hk))
  · exact fun u hu => ⟨(ovl_o (by omega)).trans ((up_ne (by omega)).trans (cp_paid hc hu)), (ovl_o (by omega)).trans ((up_ne (by omega)).trans (cp_jok hc hu)), (ovl_o (by omega)).trans ((up_ne (by omega)).trans (cp_fin hc hu)), (ovl_o (by omega)).trans ((up_ne (by omega)).trans (cp_gue hc hu))⟩
  · intro u q hu hq
    by_cases e : u * 8 + q = t * 8 + r
    · have e1 : u = t := by omega
      have e2 : q = r := by omega
      subst e1; subst e2
      refine ⟨?_, (ovl_o (by omega)).trans ((up_ne (by omega)).trans (cp_tld hc hu hq)), fun h => ⟨(ovl_o (by omega)).trans ((up_ne (by omega)).trans (cp_mar hc hu hq h)), (ovl_o (by omega)).trans ((up_ne (by omega)).trans (cp_mkr hc hu hq h))⟩, (ovl_o (by omega)).trans ((up_ne (by omega)).trans (cp_lok hc hu hq)), fun h k hk => ?_⟩
      · rw [han_e hw]; exact (ovl_o (by omega)).trans up_eq
      · rw [show s_she (hanS S u q w) (u * 8 + q) = w from if_pos rfl]; exact (ovl_i hk).trans (hg k hk)
    · refine ⟨?_, (ovl_o (by omega)).trans ((up_ne (by omega)).trans (cp_tld hc hu hq)), fun h => ⟨(ovl_o (by omega)).trans ((up_ne (by omega)).trans (cp_mar hc hu hq h)), (ovl_o (by omega)).trans ((up_ne (by omega)).trans (cp_mkr hc hu hq h))⟩, (ovl_o (by omega)).trans ((up_ne (by omega)).trans (cp_lok hc hu hq)), fun h k hk => ?_⟩
      · rw [han_n e]; exact (ovl_o (by omega)).trans ((up_ne (by omega)).trans (cp_has hc hu hq))
      · rw [han_n e] at h
        rw [show s_she (hanS S t r w) (u * 8 + q) = s_she S (u * 8 + q) from if_neg e]; exact (ovl_o (by omega)).trans ((up_ne (by omega)).trans (cp_ans hc hu hq h hk))

theorem ok_hanu {S : q_St} {K : Nat} (ho : q_ok K S) {t r : Nat} (ht : t < s_n S) (hr : r < 8) {w : Int64} (hw : ¬ w = -1) (hs : ∀ k, k < 10 → sgn w k = 15 ∨ ∃ d, d ≤ 9 ∧ sgn w k = nI d) : q_ok K (hanS S t r w) := by
  refine ⟨?_, ?_, ?_, ?_, ?_, ?_, ?_, ?_, ?_, ?_, ?_, ?_, ?_⟩
  · exact ho.1
  · exact ho.2.1
  · intro u q hu hq h
    obtain ⟨g1, g2, g3⟩ := ho.2.2.1 u q hu hq h
    exact ⟨g1, han_t hw g2, g3⟩
  · exact ho.2.2.2.1
  · exact ho.2.2.2.2.1
  · exact ho.2.2.2.2.2.1
  · exact ho.2.2.2.2.2.2.1
  · exact ho.2.2.2.2.2.2.2.1
  · exact ho.2.2.2.2.2.2.2.2.1
  · exact ho.2.2.2.2.2.2.2.2.2.1
  · exact ho.2.2.2.2.2.2.2.2.2.2.1
  · intro u q hu hq h k hk
    by_cases e : u * 8 + q = t * 8 + r
    · rw [show s_she (hanS S t r w) (u * 8 + q) = w from if_pos e]; exact hs k hk
    · rw [han_n e] at h
      rw [show s_she (hanS S t r w) (u * 8 + q) = s_she S (u * 8 + q) from if_neg e]; exact ho.2.2.2.2.2.2.2.2.2.2.2.1 u q hu hq h k hk
  · intro u h1 h2 q hq
    have h1 : s_n S ≤ u := h1
    rw [han_n (by omega)]
    exact ok_out ho h1 h2 hq

theorem cp_keyu {S : q_St} {f : Nat → Int32} (hc : q_cp S f) {r : Nat} (hr : r < 8) {w : Int64} (hw : ¬ w = -1) {g : Nat → Int32} (hg : ∀ k, k < 10 → g k = sgn w k) : q_cp (keyS S r w) (ovl (upd f (8 + 11 * r) 1) g (8 + 11 * r + 1) 10) := by
  refine ⟨?_, ?_, ?_, ?_, ?_, ?_, ?_, ?_, ?_⟩
  · exact fun k hk => (ovl_o (by omega)).trans ((up_ne (by omega)).trans (hc.1 k hk))
  · exact (ovl_o (by omega)).trans ((up_ne (by omega)).trans (hc.2.1))
  · exact (ovl_o (by omega)).trans ((up_ne (by omega)).trans (hc.2.2.1))
  · exact fun h => (ovl_o (by omega)).trans ((up_ne (by omega)).trans (hc.2.2.2.1 h))
  · exact (ovl_o (by omega)).trans ((up_ne (by omega)).trans (hc.2.2.2.2.1))
  · intro q hq
    by_cases e : q = r
    · subst e
      rw [key_e hw]; exact (ovl_o (by omega)).trans up_eq
    · rw [key_n e]; exact (ovl_o (by omega)).trans ((up_ne (by omega)).trans (hc.2.2.2.2.2.1 q hq))
  · intro q hq h k hk
    by_cases e : q = r
    · subst e
      rw [show s_key (keyS S q w) q = w from if_pos rfl]; exact (ovl_i hk).trans (hg k hk)
    · rw [key_n e] at h
      rw [show s_key (keyS S r w) q = s_key S q from if_neg e]; exact (ovl_o (by omega)).trans ((up_ne (by omega)).trans (hc.2.2.2.2.2.2.1 q hq h k hk))
  · exact fun u hu => ⟨(ovl_o (by omega)).trans ((up_ne (by omega)).trans (cp_paid hc hu)), (ovl_o (by omega)).trans ((up_ne (by omega)).trans (cp_jok hc hu)), (ovl_o (by omega)).trans ((up_ne (by omega)).trans (cp_fin hc hu)), (ovl_o (by omega)).trans ((up_ne (by omega)).trans (cp_gue hc hu))⟩
  · exact fun u q hu hq => ⟨(ovl_o (by omega)).trans ((up_ne (by omega)).trans (cp_has hc hu hq)), (ovl_o (by omega)).trans ((up_ne (by omega)).trans (cp_tld hc hu hq)), fun h => ⟨(ovl_o (by omega)).trans ((up_ne (by omega)).trans (cp_mar hc hu hq h)), (ovl_o (by omega)).trans ((up_ne (by omega)).trans (cp_mkr hc hu hq h))⟩, (ovl_o (by omega)).trans ((up_ne (by omega)).trans (cp_lok hc hu hq)), fun h k hk => (ovl_o (by omega)).trans ((up_ne (by omega)).trans (cp_ans hc hu hq h hk))⟩

theorem ok_keyu {S : q_St} {K : Nat} (ho : q_ok K S) {r : Nat} (hr : r < 8) {w : Int64} (hw : ¬ w = -1) (hs : ∀ k, k < 10 → ∃ d, d ≤ 9 ∧ sgn w k = nI d) : q_ok K (keyS S r w) := by
  refine ⟨?_, ?_, ?_, ?_, ?_, ?_, ?_, ?_, ?_, ?_, ?_, ?_, ?_⟩
  · exact ho.1
  · exact ho.2.1
  · intro u q hu hq h
    obtain ⟨g1, g2, g3, g4⟩ := ho.2.2.1 u q hu hq h
    exact ⟨g1, g2, key_f hw g3, g4⟩
  · exact ho.2.2.2.1
  · exact ho.2.2.2.2.1
  · exact ho.2.2.2.2.2.1
  · exact ho.2.2.2.2.2.2.1
  · exact ho.2.2.2.2.2.2.2.1
  · exact ho.2.2.2.2.2.2.2.2.1
  · exact ho.2.2.2.2.2.2.2.2.2.1
  · intro q hq h k hk
    by_cases e : q = r
    · subst e
      rw [show s_key (keyS S q w) q = w from if_pos rfl]; exact hs k hk
    · rw [key_n e] at h
      rw [show s_key (keyS S r w) q = s_key S q from if_neg e]; exact ho.2.2.2.2.2.2.2.2.2.2.1 q hq h k hk
  · exact ho.2.2.2.2.2.2.2.2.2.2.2.1
  · exact ho.2.2.2.2.2.2.2.2.2.2.2.2
