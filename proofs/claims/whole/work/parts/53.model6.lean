/-! one more bit -/
theorem q_or_c {f g : Nat → Bool} : ∀ n : Nat, (∀ u, u < n → f u = g u) → q_or f n = q_or g n
  | 0, _ => rfl
  | n + 1, h => by
    show q_or f n ||| _ = q_or g n ||| _
    rw [q_or_c n (fun u hu => h u (by omega)), h n (by omega)]
theorem q_or_b (f : Nat → Bool) (t : Nat) : ∀ n : Nat, t < n → q_or f n ||| ((1 : Int32) <<< (nI t &&& 31)) = q_or (fun u => f u || decide (u = t)) n
  | 0, h => absurd h (by omega)
  | n + 1, h => by
    show (q_or f n ||| (if f n = true then (1 : Int32) <<< (nI n &&& 31) else 0)) ||| _ = q_or (fun u => f u || decide (u = t)) n ||| (if (f n || decide (n = t)) = true then (1 : Int32) <<< (nI n &&& 31) else 0)
    by_cases e : t = n
    · subst e
      rw [q_or_c (f := f) (g := fun u => f u || decide (u = t)) t (fun u hu => by rw [decide_eq_false (by omega), Bool.or_false])]
      rw [decide_eq_true rfl, Bool.or_true, if_pos rfl, Int32.or_assoc]
      by_cases q : f t = true
      · rw [if_pos q, Int32.or_self]
      · rw [if_neg q, Int32.zero_or]
    · rw [← q_or_b f t n (by omega), decide_eq_false (by omega), Bool.or_false, Int32.or_assoc, Int32.or_assoc, Int32.or_comm ((1 : Int32) <<< (nI t &&& 31))]
