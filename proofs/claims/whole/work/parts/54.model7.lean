/-! the coupling, kept by the looks -/

theorem cp_loku {S : q_St} {f : Nat → Int32} (hc : q_cp S f) {t r : Nat} (ht : t < 10) (hr : r < 8) (w : Int32) (hw : w = looA (u_loo S (upd (s_loo S) r (s_loo S r ||| ((1 : Int32) <<< (nI t &&& 31)))))) : q_cp (u_loo S (upd (s_loo S) r (s_loo S r ||| ((1 : Int32) <<< (nI t &&& 31))))) (upd (upd f (136 + 15 * (t * 8 + r) + 4) 1) 7 w) := by
  refine ⟨?_, ?_, ?_, ?_, ?_, ?_, ?_, ?_, ?_⟩
  · exact fun k hk => (up_ne (by omega)).trans ((up_ne (by omega)).trans (hc.1 k hk))
  · exact (up_ne (by omega)).trans ((up_ne (by omega)).trans (hc.2.1))
  · exact (up_ne (by omega)).trans ((up_ne (by omega)).trans (hc.2.2.1))
  · exact fun h => (up_ne (by omega)).trans ((up_ne (by omega)).trans (hc.2.2.2.1 h))
  · exact up_eq.trans hw
  · exact fun q hq => (up_ne (by omega)).trans ((up_ne (by omega)).trans (hc.2.2.2.2.2.1 q hq))
  · exact fun q hq h k hk => (up_ne (by omega)).trans ((up_ne (by omega)).trans (hc.2.2.2.2.2.2.1 q hq h k hk))
  · exact fun u hu => ⟨(up_ne (by omega)).trans ((up_ne (by omega)).trans (cp_paid hc hu)), (up_ne (by omega)).trans ((up_ne (by omega)).trans (cp_jok hc hu)), (up_ne (by omega)).trans ((up_ne (by omega)).trans (cp_fin hc hu)), (up_ne (by omega)).trans ((up_ne (by omega)).trans (cp_gue hc hu))⟩
  · intro u q hu hq
    refine ⟨(up_ne (by omega)).trans ((up_ne (by omega)).trans (cp_has hc hu hq)), (up_ne (by omega)).trans ((up_ne (by omega)).trans (cp_tld hc hu hq)), fun h => ⟨(up_ne (by omega)).trans ((up_ne (by omega)).trans (cp_mar hc hu hq h)), (up_ne (by omega)).trans ((up_ne (by omega)).trans (cp_mkr hc hu hq h))⟩, ?_, fun h k hk => (up_ne (by omega)).trans ((up_ne (by omega)).trans (cp_ans hc hu hq h hk))⟩
    by_cases e : q = r
    · subst e
      rw [lok_up ht hu]
      by_cases e2 : u = t
      · subst e2
        exact (up_ne (by omega)).trans (up_eq.trans (by simp [bI]))
      · rw [decide_eq_false e2, Bool.or_false]
        exact (up_ne (by omega)).trans ((up_ne (by omega)).trans (cp_lok hc hu hq))
    · rw [lok_un e]
      exact (up_ne (by omega)).trans ((up_ne (by omega)).trans (cp_lok hc hu hq))
