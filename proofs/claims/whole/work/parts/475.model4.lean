/-! the coupling, kept by each change -/
theorem up_ne {f : Nat → Int32} {j k : Nat} {v : Int32} (h : k ≠ j) : upd f j v k = f k := if_neg h
theorem up_eq {f : Nat → Int32} {j : Nat} {v : Int32} : upd f j v j = v := if_pos rfl
theorem jkI_n {r : Nat} (h : r < 2 ^ 30) : jkI (nI r) = nI (r + 1) := by
  unfold jkI
  rw [if_neg (nI_6 (by omega))]
  exact nI_1 _

theorem cp_joku {S : q_St} {f : Nat → Int32} (hc : q_cp S f) {t r : Nat} (ht : t < 10) (hr : r < 8) : q_cp (jokS S t r) (upd f (96 + 4 * t + 1) (nI (r + 1))) := by
  refine ⟨?_, ?_, ?_, ?_, ?_, ?_, ?_, ?_, ?_⟩
  · exact fun k hk => (up_ne (by omega)).trans (hc.1 k hk)
  · exact (up_ne (by omega)).trans (hc.2.1)
  · exact (up_ne (by omega)).trans (hc.2.2.1)
  · exact fun h => (up_ne (by omega)).trans (hc.2.2.2.1 h)
  · exact (up_ne (by omega)).trans (hc.2.2.2.2.1)
  · exact fun q hq => (up_ne (by omega)).trans (hc.2.2.2.2.2.1 q hq)
  · exact fun q hq h k hk => (up_ne (by omega)).trans (hc.2.2.2.2.2.2.1 q hq h k hk)
  · intro u hu
    by_cases e : u = t
    · subst e
      exact ⟨(up_ne (by omega)).trans (cp_paid hc hu), up_eq.trans ((jkI_n (by omega)).symm.trans (congrArg jkI up_eq.symm)), (up_ne (by omega)).trans (cp_fin hc hu), (up_ne (by omega)).trans (cp_gue hc hu)⟩
    · exact ⟨(up_ne (by omega)).trans (cp_paid hc hu), (up_ne (by omega)).trans ((cp_jok hc hu).trans (congrArg jkI (up_ne e).symm)), (up_ne (by omega)).trans (cp_fin hc hu), (up_ne (by omega)).trans (cp_gue hc hu)⟩
  · exact fun u q hu hq => ⟨(up_ne (by omega)).trans (cp_has hc hu hq), (up_ne (by omega)).trans (cp_tld hc hu hq), fun h => ⟨(up_ne (by omega)).trans (cp_mar hc hu hq h), (up_ne (by omega)).trans (cp_mkr hc hu hq h)⟩, (up_ne (by omega)).trans (cp_lok hc hu hq), fun h k hk => (up_ne (by omega)).trans (cp_ans hc hu hq h hk)⟩

theorem ok_joku {S : q_St} {K : Nat} (ho : q_ok K S) {t r : Nat} (ht : t < 10) (hr : r < 8) : q_ok K (jokS S t r) := by
  refine ⟨?_, ?_, ?_, ?_, ?_, ?_, ?_, ?_, ?_, ?_, ?_, ?_, ?_⟩
  · exact ho.1
  · exact ho.2.1
  · exact ho.2.2.1
  · exact ho.2.2.2.1
  · exact ho.2.2.2.2.1
  · intro u hu
    by_cases e : u = t
    · subst e; exact Or.inr ⟨r, hr, up_eq⟩
    · rw [show s_jok (jokS S t r) u = s_jok S u from up_ne e]; exact ok_jok ho hu
  · exact ho.2.2.2.2.2.2.1
  · exact ho.2.2.2.2.2.2.2.1
  · exact ho.2.2.2.2.2.2.2.2.1
  · exact ho.2.2.2.2.2.2.2.2.2.1
  · exact ho.2.2.2.2.2.2.2.2.2.2.1
  · exact ho.2.2.2.2.2.2.2.2.2.2.2.1
  · exact ho.2.2.2.2.2.2.2.2.2.2.2.2

theorem cp_setu {S : q_St} {f : Nat → Int32} (hc : q_cp S f) {j : Nat} (hj : j < 4) (y : Int32) : q_cp (u_set S (upd (s_set S) j y)) (upd f j y) := by
  refine ⟨?_, ?_, ?_, ?_, ?_, ?_, ?_, ?_, ?_⟩
  · intro k hk
    by_cases e : k = j
    · subst e; exact up_eq.trans up_eq.symm
    · exact (up_ne e).trans ((hc.1 k hk).trans (up_ne e).symm)
  · exact (up_ne (by omega)).trans (hc.2.1)
  · exact (up_ne (by omega)).trans (hc.2.2.1)
  · exact fun h => (up_ne (by omega)).trans (hc.2.2.2.1 h)
  · exact (up_ne (by omega)).trans (hc.2.2.2.2.1)
  · exact fun q hq => (up_ne (by omega)).trans (hc.2.2.2.2.2.1 q hq)
  · exact fun q hq h k hk => (up_ne (by omega)).trans (hc.2.2.2.2.2.2.1 q hq h k hk)
  · exact fun u hu => ⟨(up_ne (by omega)).trans (cp_paid hc hu), (up_ne (by omega)).trans (cp_jok hc hu), (up_ne (by omega)).trans (cp_fin hc hu), (up_ne (by omega)).trans (cp_gue hc hu)⟩
  · exact fun u q hu hq => ⟨(up_ne (by omega)).trans (cp_has hc hu hq), (up_ne (by omega)).trans (cp_tld hc hu hq), fun h => ⟨(up_ne (by omega)).trans (cp_mar hc hu hq h), (up_ne (by omega)).trans (cp_mkr hc hu hq h)⟩, (up_ne (by omega)).trans (cp_lok hc hu hq), fun h k hk => (up_ne (by omega)).trans (cp_ans hc hu hq h hk)⟩

theorem ok_setu {S : q_St} {K : Nat} (ho : q_ok K S) {j : Nat} (y : Int32) (h2 : j = 2 → ∃ v, v ≤ 2 ∧ y = nI v) (h3 : j = 3 → ∃ v, v ≤ 9 ∧ y = nI v) : q_ok K (u_set S (upd (s_set S) j y)) := by
  refine ⟨?_, ?_, ?_, ?_, ?_, ?_, ?_, ?_, ?_, ?_, ?_, ?_, ?_⟩
  · exact ho.1
  · exact ho.2.1
  · exact ho.2.2.1
  · exact ho.2.2.2.1
  · exact ho.2.2.2.2.1
  · exact ho.2.2.2.2.2.1
  · exact ho.2.2.2.2.2.2.1
  · exact ho.2.2.2.2.2.2.2.1
  · by_cases e : 2 = j
    · obtain ⟨v, hv, ev⟩ := h2 e.symm
      exact ⟨v, hv, by rw [← ev, e]; exact up_eq⟩
    · obtain ⟨v, hv, ev⟩ := ho.2.2.2.2.2.2.2.2.1
      exact ⟨v, hv, (up_ne e).trans ev⟩
  · by_cases e : 3 = j
    · obtain ⟨v, hv, ev⟩ := h3 e.symm
      exact ⟨v, hv, by rw [← ev, e]; exact up_eq⟩
    · obtain ⟨v, hv, ev⟩ := ho.2.2.2.2.2.2.2.2.2.1
      exact ⟨v, hv, (up_ne e).trans ev⟩
  · exact ho.2.2.2.2.2.2.2.2.2.2.1
  · exact ho.2.2.2.2.2.2.2.2.2.2.2.1
  · exact ho.2.2.2.2.2.2.2.2.2.2.2.2

theorem cp_gueu {S : q_St} {f : Nat → Int32} (hc : q_cp S f) {t : Nat} (ht : t < 10) {v : Nat} (hv : v ≤ 9999) : q_cp (u_gue S (upd (s_gue S) t (nI v))) (upd f (96 + 4 * t + 3) (nI (v + 1))) := by
  refine ⟨?_, ?_, ?_, ?_, ?_, ?_, ?_, ?_, ?_⟩
  · exact fun k hk => (up_ne (by omega)).trans (hc.1 k hk)
  · exact (up_ne (by omega)).trans (hc.2.1)
  · exact (up_ne (by omega)).trans (hc.2.2.1)
  · exact fun h => (up_ne (by omega)).trans (hc.2.2.2.1 h)
  · exact (up_ne (by omega)).trans (hc.2.2.2.2.1)
  · exact fun q hq => (up_ne (by omega)).trans (hc.2.2.2.2.2.1 q hq)
  · exact fun q hq h k hk => (up_ne (by omega)).trans (hc.2.2.2.2.2.2.1 q hq h k hk)
  · intro u hu
    by_cases e : u = t
    · subst e
      exact ⟨(up_ne (by omega)).trans (cp_paid hc hu), (up_ne (by omega)).trans (cp_jok hc hu), (up_ne (by omega)).trans (cp_fin hc hu), up_eq.trans ((jkI_n (by omega)).symm.trans (congrArg jkI up_eq.symm))⟩
    · exact ⟨(up_ne (by omega)).trans (cp_paid hc hu), (up_ne (by omega)).trans (cp_jok hc hu), (up_ne (by omega)).trans (cp_fin hc hu), (up_ne (by omega)).trans ((cp_gue hc hu).trans (congrArg jkI (up_ne e).symm))⟩
  · exact fun u q hu hq => ⟨(up_ne (by omega)).trans (cp_has hc hu hq), (up_ne (by omega)).trans (cp_tld hc hu hq), fun h => ⟨(up_ne (by omega)).trans (cp_mar hc hu hq h), (up_ne (by omega)).trans (cp_mkr hc hu hq h)⟩, (up_ne (by omega)).trans (cp_lok hc hu hq), fun h k hk => (up_ne (by omega)).trans (cp_ans hc hu hq h hk)⟩

theorem ok_gueu {S : q_St} {K : Nat} (ho : q_ok K S) {t : Nat} (ht : t < 10) {v : Nat} (hv : v ≤ 9999) : q_ok K (u_gue S (upd (s_gue S) t (nI v))) := by
  refine ⟨?_, ?_, ?_, ?_, ?_, ?_, ?_, ?_, ?_, ?_, ?_, ?_, ?_⟩
  · exact ho.1
  · exact ho.2.1
  · exact ho.2.2.1
  · exact ho.2.2.2.1
  · exact ho.2.2.2.2.1
  · exact ho.2.2.2.2.2.1
  · intro u hu
    by_cases e : u = t
    · subst e; exact Or.inr ⟨v, hv, up_eq⟩
    · rw [show s_gue (u_gue S (upd (s_gue S) t (nI v))) u = s_gue S u from up_ne e]; exact ok_gue ho hu
  · exact ho.2.2.2.2.2.2.2.1
  · exact ho.2.2.2.2.2.2.2.2.1
  · exact ho.2.2.2.2.2.2.2.2.2.1
  · exact ho.2.2.2.2.2.2.2.2.2.2.1
  · exact ho.2.2.2.2.2.2.2.2.2.2.2.1
  · exact ho.2.2.2.2.2.2.2.2.2.2.2.2

theorem cp_truu {S : q_St} {f : Nat → Int32} (hc : q_cp S f) {v : Nat} (hv : v ≤ 9999) : q_cp (u_tru S (nI v)) (upd (upd f 5 1) 6 (nI v)) := by
  refine ⟨?_, ?_, ?_, ?_, ?_, ?_, ?_, ?_, ?_⟩
  · exact fun k hk => (up_ne (by omega)).trans ((up_ne (by omega)).trans (hc.1 k hk))
  · exact (up_ne (by omega)).trans ((up_ne (by omega)).trans (hc.2.1))
  · refine (up_ne (by omega)).trans (up_eq.trans ?_)
    rw [show s_tru (u_tru S (nI v)) = nI v from rfl, decide_eq_false (nI_6 (by omega))]; rfl
  · exact fun _ => up_eq
  · exact (up_ne (by omega)).trans ((up_ne (by omega)).trans (hc.2.2.2.2.1))
  · exact fun q hq => (up_ne (by omega)).trans ((up_ne (by omega)).trans (hc.2.2.2.2.2.1 q hq))
  · exact fun q hq h k hk => (up_ne (by omega)).trans ((up_ne (by omega)).trans (hc.2.2.2.2.2.2.1 q hq h k hk))
  · exact fun u hu => ⟨(up_ne (by omega)).trans ((up_ne (by omega)).trans (cp_paid hc hu)), (up_ne (by omega)).trans ((up_ne (by omega)).trans (cp_jok hc hu)), (up_ne (by omega)).trans ((up_ne (by omega)).trans (cp_fin hc hu)), (up_ne (by omega)).trans ((up_ne (by omega)).trans (cp_gue hc hu))⟩
  · exact fun u q hu hq => ⟨(up_ne (by omega)).trans ((up_ne (by omega)).trans (cp_has hc hu hq)), (up_ne (by omega)).trans ((up_ne (by omega)).trans (cp_tld hc hu hq)), fun h => ⟨(up_ne (by omega)).trans ((up_ne (by omega)).trans (cp_mar hc hu hq h)), (up_ne (by omega)).trans ((up_ne (by omega)).trans (cp_mkr hc hu hq h))⟩, (up_ne (by omega)).trans ((up_ne (by omega)).trans (cp_lok hc hu hq)), fun h k hk => (up_ne (by omega)).trans ((up_ne (by omega)).trans (cp_ans hc hu hq h hk))⟩

theorem ok_truu {S : q_St} {K : Nat} (ho : q_ok K S) {v : Nat} (hv : v ≤ 9999) : q_ok K (u_tru S (nI v)) := by
  refine ⟨?_, ?_, ?_, ?_, ?_, ?_, ?_, ?_, ?_, ?_, ?_, ?_, ?_⟩
  · exact ho.1
  · exact ho.2.1
  · exact ho.2.2.1
  · exact ho.2.2.2.1
  · exact ho.2.2.2.2.1
  · exact ho.2.2.2.2.2.1
  · exact ho.2.2.2.2.2.2.1
  · exact Or.inr ⟨v, hv, rfl⟩
  · exact ho.2.2.2.2.2.2.2.2.1
  · exact ho.2.2.2.2.2.2.2.2.2.1
  · exact ho.2.2.2.2.2.2.2.2.2.2.1
  · exact ho.2.2.2.2.2.2.2.2.2.2.2.1
  · exact ho.2.2.2.2.2.2.2.2.2.2.2.2

theorem cp_maru {S : q_St} {f : Nat → Int32} (hc : q_cp S f) {m t r : Nat} (hm : m < 10) (ht : t < 10) (hr : r < 8) (k : Int32) : q_cp (marS S m t r k) (upd (upd (upd f (136 + 15 * (t * 8 + r) + 1) 1) (136 + 15 * (t * 8 + r) + 2) k) (136 + 15 * (t * 8 + r) + 3) (nI m)) := by
  refine ⟨?_, ?_, ?_, ?_, ?_, ?_, ?_, ?_, ?_⟩
  · exact fun k hk => (up_ne (by omega)).trans ((up_ne (by omega)).trans ((up_ne (by omega)).trans (hc.1 k hk)))
  · exact (up_ne (by omega)).trans ((up_ne (by omega)).trans ((up_ne (by omega)).trans (hc.2.1)))
  · exact (up_ne (by omega)).trans ((up_ne (by omega)).trans ((up_ne (by omega)).trans (hc.2.2.1)))
  · exact fun h => (up_ne (by omega)).trans ((up_ne (by omega)).trans ((up_ne (by omega)).trans (hc.2.2.2.1 h)))
  · exact (up_ne (by omega)).trans ((up_ne (by omega)).trans ((up_ne (by omega)).trans (hc.2.2.2.2.1)))
  · exact fun q hq => (up_ne (by omega)).trans ((up_ne (by omega)).trans ((up_ne (by omega)).trans (hc.2.2.2.2.2.1 q hq)))
  · exact fun q hq h k hk => (up_ne (by omega)).trans ((up_ne (by omega)).trans ((up_ne (by omega)).trans (hc.2.2.2.2.2.2.1 q hq h k hk)))
  · exact fun u hu => ⟨(up_ne (by omega)).trans ((up_ne (by omega)).trans ((up_ne (by omega)).trans (cp_paid hc hu))), (up_ne (by omega)).trans ((up_ne (by omega)).trans ((up_ne (by omega)).trans (cp_jok hc hu))), (up_ne (by omega)).trans ((up_ne (by omega)).trans ((up_ne (by omega)).trans (cp_fin hc hu))), (up_ne (by omega)).trans ((up_ne (by omega)).trans ((up_ne (by omega)).trans (cp_gue hc hu)))⟩
  · intro u q hu hq
    by_cases e : u * 8 + q = t * 8 + r
    · have e1 : u = t := by omega
      have e2 : q = r := by omega
      subst e1; subst e2
      have hT : tldS (marS S m u q k) u q = true := decide_eq_true (by rw [show s_mkr (marS S m u q k) (u * 8 + q) = nI m from up_eq]; exact nI_6 (by omega))
      refine ⟨(up_ne (by omega)).trans ((up_ne (by omega)).trans ((up_ne (by omega)).trans (cp_has hc hu hq))), ?_, fun _ => ⟨?_, ?_⟩, (up_ne (by omega)).trans ((up_ne (by omega)).trans ((up_ne (by omega)).trans (cp_lok hc hu hq))), fun h k hk => (up_ne (by omega)).trans ((up_ne (by omega)).trans ((up_ne (by omega)).trans (cp_ans hc hu hq h hk)))⟩
      · rw [hT]; exact (up_ne (by omega)).trans ((up_ne (by omega)).trans up_eq)
      · exact (up_ne (by omega)).trans (up_eq.trans up_eq.symm)
      · exact up_eq.trans up_eq.symm
    · have hT : tldS (marS S m t r k) u q = tldS S u q := congrArg (fun z => decide (¬ z = -6)) (up_ne e)
      refine ⟨(up_ne (by omega)).trans ((up_ne (by omega)).trans ((up_ne (by omega)).trans (cp_has hc hu hq))), ?_, fun h => ⟨?_, ?_⟩, (up_ne (by omega)).trans ((up_ne (by omega)).trans ((up_ne (by omega)).trans (cp_lok hc hu hq))), fun h k hk => (up_ne (by omega)).trans ((up_ne (by omega)).trans ((up_ne (by omega)).trans (cp_ans hc hu hq h hk)))⟩
      · rw [hT]; exact (up_ne (by omega)).trans ((up_ne (by omega)).trans ((up_ne (by omega)).trans (cp_tld hc hu hq)))
      · exact (up_ne (by omega)).trans ((up_ne (by omega)).trans ((up_ne (by omega)).trans ((cp_mar hc hu hq (hT ▸ h)).trans (up_ne e).symm)))
      · exact (up_ne (by omega)).trans ((up_ne (by omega)).trans ((up_ne (by omega)).trans ((cp_mkr hc hu hq (hT ▸ h)).trans (up_ne e).symm)))

theorem ok_maru {S : q_St} {K : Nat} (ho : q_ok K S) {m t r : Nat} (hm : m < s_n S) (ht : t < 10) (hr : r < 8) {k : Int32} (h1 : -20 ≤ k.toInt) (h2 : k.toInt ≤ 10) (hS : hasS S t r = true) (hO : isOp S r = false) : q_ok K (marS S m t r k) := by
  refine ⟨?_, ?_, ?_, ?_, ?_, ?_, ?_, ?_, ?_, ?_, ?_, ?_, ?_⟩
  · exact ho.1
  · exact ho.2.1
  · intro u q hu hq h
    by_cases e : u * 8 + q = t * 8 + r
    · have e1 : u = t := by omega
      have e2 : q = r := by omega
      subst e1; subst e2
      refine ⟨⟨m, hm, up_eq⟩, hS, hO, ?_, ?_⟩
      · rw [show s_mar (marS S m u q k) (u * 8 + q) = k from up_eq]; exact h1
      · rw [show s_mar (marS S m u q k) (u * 8 + q) = k from up_eq]; exact h2
    · have hT : tldS (marS S m t r k) u q = tldS S u q := congrArg (fun z => decide (¬ z = -6)) (up_ne e)
      rw [show s_mar (marS S m t r k) (u * 8 + q) = s_mar S (u * 8 + q) from up_ne e, show s_mkr (marS S m t r k) (u * 8 + q) = s_mkr S (u * 8 + q) from up_ne e]
      exact ho.2.2.1 u q hu hq (hT ▸ h)
  · intro u q hu hq h
    by_cases e : u * 8 + q = t * 8 + r
    · have e1 : u = t := by omega
      have e2 : q = r := by omega
      subst e1; subst e2
      have := ho.1
      exact decide_eq_true (by rw [show s_mkr (marS S m u q k) (u * 8 + q) = nI m from up_eq]; exact nI_6 (by omega))
    · rw [show tldS (marS S m t r k) u q = tldS S u q from congrArg (fun z => decide (¬ z = -6)) (up_ne e)]
      exact ho.2.2.2.1 u q hu hq h
  · exact ho.2.2.2.2.1
  · exact ho.2.2.2.2.2.1
  · exact ho.2.2.2.2.2.2.1
  · exact ho.2.2.2.2.2.2.2.1
  · exact ho.2.2.2.2.2.2.2.2.1
  · exact ho.2.2.2.2.2.2.2.2.2.1
  · exact ho.2.2.2.2.2.2.2.2.2.2.1
  · exact ho.2.2.2.2.2.2.2.2.2.2.2.1
  · exact ho.2.2.2.2.2.2.2.2.2.2.2.2

theorem cp_teau {S : q_St} {f : Nat → Int32} (hc : q_cp S f) (hn : s_n S < 10) : q_cp (teaS S) (upd (upd f (96 + 4 * s_n S) (s_set S 0)) 4 (nI (s_n S + 1))) := by
  refine ⟨?_, ?_, ?_, ?_, ?_, ?_, ?_, ?_, ?_⟩
  · exact fun k hk => (up_ne (by omega)).trans ((up_ne (by omega)).trans (hc.1 k hk))
  · exact up_eq
  · exact (up_ne (by omega)).trans ((up_ne (by omega)).trans (hc.2.2.1))
  · exact fun h => (up_ne (by omega)).trans ((up_ne (by omega)).trans (hc.2.2.2.1 h))
  · exact (up_ne (by omega)).trans ((up_ne (by omega)).trans (hc.2.2.2.2.1))
  · exact fun q hq => (up_ne (by omega)).trans ((up_ne (by omega)).trans (hc.2.2.2.2.2.1 q hq))
  · exact fun q hq h k hk => (up_ne (by omega)).trans ((up_ne (by omega)).trans (hc.2.2.2.2.2.2.1 q hq h k hk))
  · intro u hu
    by_cases e : u = s_n S
    · subst e
      exact ⟨(up_ne (by omega)).trans (up_eq.trans up_eq.symm), (up_ne (by omega)).trans ((up_ne (by omega)).trans (cp_jok hc hu)), (up_ne (by omega)).trans ((up_ne (by omega)).trans (cp_fin hc hu)), (up_ne (by omega)).trans ((up_ne (by omega)).trans (cp_gue hc hu))⟩
    · exact ⟨(up_ne (by omega)).trans ((up_ne (by omega)).trans ((cp_paid hc hu).trans (up_ne e).symm)), (up_ne (by omega)).trans ((up_ne (by omega)).trans (cp_jok hc hu)), (up_ne (by omega)).trans ((up_ne (by omega)).trans (cp_fin hc hu)), (up_ne (by omega)).trans ((up_ne (by omega)).trans (cp_gue hc hu))⟩
  · exact fun u q hu hq => ⟨(up_ne (by omega)).trans ((up_ne (by omega)).trans (cp_has hc hu hq)), (up_ne (by omega)).trans ((up_ne (by omega)).trans (cp_tld hc hu hq)), fun h => ⟨(up_ne (by omega)).trans ((up_ne (by omega)).trans (cp_mar hc hu hq h)), (up_ne (by omega)).trans ((up_ne (by omega)).trans (cp_mkr hc hu hq h))⟩, (up_ne (by omega)).trans ((up_ne (by omega)).trans (cp_lok hc hu hq)), fun h k hk => (up_ne (by omega)).trans ((up_ne (by omega)).trans (cp_ans hc hu hq h hk))⟩

theorem ok_teau {S : q_St} {K : Nat} (ho : q_ok K S) (hn : s_n S < 10) : q_ok K (teaS S) := by
  refine ⟨?_, ?_, ?_, ?_, ?_, ?_, ?_, ?_, ?_, ?_, ?_, ?_, ?_⟩
  · exact hn
  · exact ho.2.1
  · intro u q hu hq h
    obtain ⟨⟨m, hm, em⟩, h2⟩ := ho.2.2.1 u q hu hq h
    exact ⟨⟨m, Nat.lt_succ_of_lt hm, em⟩, h2⟩
  · exact ho.2.2.2.1
  · intro r hr
    have h1 := ok_loo ho hr
    have h2 : lokS S (s_n S) r = false := by
      cases hl : lokS S (s_n S) r
      · rfl
      · have h3 := ok_th ho hn hr (ok_lt ho hn hr hl)
        rw [ho.2.2.2.2.2.2.2.2.2.2.2.2 (s_n S) (Nat.le_refl _) hn r hr] at h3; cases h3
    show s_loo S r = q_or (fun t => lokS S t r) (s_n S + 1)
    rw [h1]
    simp only [q_or, h2]
    simp
  · exact ho.2.2.2.2.2.1
  · exact ho.2.2.2.2.2.2.1
  · exact ho.2.2.2.2.2.2.2.1
  · exact ho.2.2.2.2.2.2.2.2.1
  · exact ho.2.2.2.2.2.2.2.2.2.1
  · exact ho.2.2.2.2.2.2.2.2.2.2.1
  · exact ho.2.2.2.2.2.2.2.2.2.2.2.1
  · exact fun t h1 h2 r hr => ho.2.2.2.2.2.2.2.2.2.2.2.2 t (Nat.le_of_succ_le h1) h2 r hr
