/-! the coupling, kept by the pieces of look -/

theorem cp_finu {S : q_St} {f : Nat → Int32} (hc : q_cp S f) {m : Nat} (hm : m < 10) (w : Int32) : q_cp (u_fin S (upd (s_fin S) m w)) (upd f (96 + 4 * m + 2) w) := by
  refine ⟨?_, ?_, ?_, ?_, ?_, ?_, ?_, ?_, ?_⟩
  · exact fun k hk => (up_ne (by omega)).trans (hc.1 k hk)
  · exact (up_ne (by omega)).trans (hc.2.1)
  · exact (up_ne (by omega)).trans (hc.2.2.1)
  · exact fun h => (up_ne (by omega)).trans (hc.2.2.2.1 h)
  · exact (up_ne (by omega)).trans (hc.2.2.2.2.1)
  · exact fun q hq => (up_ne (by omega)).trans (hc.2.2.2.2.2.1 q hq)
  · exact fun q hq h k hk => (up_ne (by omega)).trans (hc.2.2.2.2.2.2.1 q hq h k hk)
  · intro u hu
    by_cases e : u = m
    · subst e
      exact ⟨(up_ne (by omega)).trans (cp_paid hc hu), (up_ne (by omega)).trans (cp_jok hc hu), up_eq.trans up_eq.symm, (up_ne (by omega)).trans (cp_gue hc hu)⟩
    · exact ⟨(up_ne (by omega)).trans (cp_paid hc hu), (up_ne (by omega)).trans (cp_jok hc hu), (up_ne (by omega)).trans ((cp_fin hc hu).trans (up_ne e).symm), (up_ne (by omega)).trans (cp_gue hc hu)⟩
  · exact fun u q hu hq => ⟨(up_ne (by omega)).trans (cp_has hc hu hq), (up_ne (by omega)).trans (cp_tld hc hu hq), fun h => ⟨(up_ne (by omega)).trans (cp_mar hc hu hq h), (up_ne (by omega)).trans (cp_mkr hc hu hq h)⟩, (up_ne (by omega)).trans (cp_lok hc hu hq), fun h k hk => (up_ne (by omega)).trans (cp_ans hc hu hq h hk)⟩

theorem ok_finu {S : q_St} {K : Nat} (ho : q_ok K S) {m : Nat} (hm : m < 10) {j : Nat} (hj : j ≤ K + 1) : q_ok (K + 1) (u_fin S (upd (s_fin S) m (nI j))) := by
  refine ⟨?_, ?_, ?_, ?_, ?_, ?_, ?_, ?_, ?_, ?_, ?_, ?_, ?_⟩
  · exact ho.1
  · intro u hu
    by_cases e : u = m
    · subst e; exact ⟨j, hj, up_eq⟩
    · obtain ⟨i, hi, ei⟩ := ok_fin ho hu
      exact ⟨i, by omega, (up_ne e).trans ei⟩
  · exact ho.2.2.1
  · exact ho.2.2.2.1
  · exact ho.2.2.2.2.1
  · exact ho.2.2.2.2.2.1
  · exact ho.2.2.2.2.2.2.1
  · exact ho.2.2.2.2.2.2.2.1
  · exact ho.2.2.2.2.2.2.2.2.1
  · exact ho.2.2.2.2.2.2.2.2.2.1
  · exact ho.2.2.2.2.2.2.2.2.2.2.1
  · exact ho.2.2.2.2.2.2.2.2.2.2.2.1
  · exact ho.2.2.2.2.2.2.2.2.2.2.2.2

theorem cp_mru {S : q_St} {f : Nat → Int32} (hc : q_cp S f) {t r : Nat} (ht : t < 10) (hr : r < 8) (k : Int32) : q_cp (u_mar S (upd (s_mar S) (t * 8 + r) k)) (upd f (136 + 15 * (t * 8 + r) + 2) k) := by
  refine ⟨?_, ?_, ?_, ?_, ?_, ?_, ?_, ?_, ?_⟩
  · exact fun k hk => (up_ne (by omega)).trans (hc.1 k hk)
  · exact (up_ne (by omega)).trans (hc.2.1)
  · exact (up_ne (by omega)).trans (hc.2.2.1)
  · exact fun h => (up_ne (by omega)).trans (hc.2.2.2.1 h)
  · exact (up_ne (by omega)).trans (hc.2.2.2.2.1)
  · exact fun q hq => (up_ne (by omega)).trans (hc.2.2.2.2.2.1 q hq)
  · exact fun q hq h k hk => (up_ne (by omega)).trans (hc.2.2.2.2.2.2.1 q hq h k hk)
  · exact fun u hu => ⟨(up_ne (by omega)).trans (cp_paid hc hu), (up_ne (by omega)).trans (cp_jok hc hu), (up_ne (by omega)).trans (cp_fin hc hu), (up_ne (by omega)).trans (cp_gue hc hu)⟩
  · intro u q hu hq
    by_cases e : u * 8 + q = t * 8 + r
    · rw [e]
      have e1 : u = t := by omega
      have e2 : q = r := by omega
      subst e1; subst e2
      exact ⟨(up_ne (by omega)).trans (cp_has hc hu hq), (up_ne (by omega)).trans (cp_tld hc hu hq), fun h => ⟨up_eq.trans up_eq.symm, (up_ne (by omega)).trans (cp_mkr hc hu hq h)⟩, (up_ne (by omega)).trans (cp_lok hc hu hq), fun h k hk => (up_ne (by omega)).trans (cp_ans hc hu hq h hk)⟩
    · exact ⟨(up_ne (by omega)).trans (cp_has hc hu hq), (up_ne (by omega)).trans (cp_tld hc hu hq), fun h => ⟨(up_ne (by omega)).trans ((cp_mar hc hu hq h).trans (up_ne e).symm), (up_ne (by omega)).trans (cp_mkr hc hu hq h)⟩, (up_ne (by omega)).trans (cp_lok hc hu hq), fun h k hk => (up_ne (by omega)).trans (cp_ans hc hu hq h hk)⟩

theorem ok_mru {S : q_St} {K : Nat} (ho : q_ok K S) {t r : Nat} (ht : t < 10) (hr : r < 8) {k : Int32} (h1 : -20 ≤ k.toInt) (h2 : k.toInt ≤ 10) : q_ok K (u_mar S (upd (s_mar S) (t * 8 + r) k)) := by
  refine ⟨?_, ?_, ?_, ?_, ?_, ?_, ?_, ?_, ?_, ?_, ?_, ?_, ?_⟩
  · exact ho.1
  · exact ho.2.1
  · intro u q hu hq h
    obtain ⟨g1, g2, g3, g4, g5⟩ := ho.2.2.1 u q hu hq h
    refine ⟨g1, g2, g3, ?_⟩
    by_cases e : u * 8 + q = t * 8 + r
    · rw [show s_mar (u_mar S (upd (s_mar S) (t * 8 + r) k)) (u * 8 + q) = k from by rw [e]; exact up_eq]; exact ⟨h1, h2⟩
    · rw [show s_mar (u_mar S (upd (s_mar S) (t * 8 + r) k)) (u * 8 + q) = s_mar S (u * 8 + q) from up_ne e]; exact ⟨g4, g5⟩
  · exact ho.2.2.2.1
  · exact ho.2.2.2.2.1
  · exact ho.2.2.2.2.2.1
  · exact ho.2.2.2.2.2.2.1
  · exact ho.2.2.2.2.2.2.2.1
  · exact ho.2.2.2.2.2.2.2.2.1
  · exact ho.2.2.2.2.2.2.2.2.2.1
  · exact ho.2.2.2.2.2.2.2.2.2.2.1
  · exact ho.2.2.2.2.2.2.2.2.2.2.2.1
  · exact ho.2.2.2.2.2.2.2.2.2.2.2.2
