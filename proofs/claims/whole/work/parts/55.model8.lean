/-! one look more -/
theorem looA_up {S : q_St} {K t r : Nat} (ho : q_ok K S) (ht : t < s_n S) (hr : r < 8) (hl : lokS S t r = false) : looA (u_loo S (upd (s_loo S) r (s_loo S r ||| ((1 : Int32) <<< (nI t &&& 31))))) = looA S + 1 := by
  have hn := ok_n ho
  have h1 := ok_loo ho hr
  have e : popc (s_loo S r ||| ((1 : Int32) <<< (nI t &&& 31))) = popc (s_loo S r) + 1 := by
    rw [h1, q_or_b _ t _ ht, q_popN _ _ hn, q_popN _ _ hn, q_cnt_b _ t hl _ ht, nI_1]
  have h := q_acc_1 0 (fun r => popc (s_loo S r)) (fun q => popc (upd (s_loo S) r (s_loo S r ||| ((1 : Int32) <<< (nI t &&& 31))) q)) r 1 8 (fun q _ hq => congrArg popc (up_ne hq)) ((congrArg popc up_eq).trans e)
  rw [if_pos hr] at h
  exact h
