/-! one more bit -/
theorem q_or_c {f g : Nat → Bool} : ∀ n : Nat, (∀ u, u < n → f u = g u) → q_or f n = q_or g n
  | 0, _ => rfl
  | n + 1, h => by
    show q_or f n ||| _ = q_or g n ||| _
    rw [q_or_c n (fun u hu => h u (by omega)), h n (by omega)]
theorem q_or_b (f : Nat → Bool) (t : Nat) : ∀ n : Nat, t < n → q_or f n ||| ((1 : Int32) <<< (nI t &&& 31)) = q_or (fun u => f u || decide (u = t)) n
  | 0, h => absurd h (by omega)
  | n + 1, h => by
    show (q_or f n ||| (if f n = true then (1 : Int32) <<< (nI n &&& 31) else 0)) ||| _ = q_or (fun u => f u || decide (u = t)) n ||| (if (f n || decide (n = t)) = true then (1 : Int32) <<< (nI n &&& 31) else 0)
    by_cases e : t = n
    · subst e
      rw [q_or_c (f := f) (g := fun u => f u || decide (u = t)) t (fun u hu => by rw [decide_eq_false (by omega), Bool.or_false])]
      rw [decide_eq_true rfl, Bool.or_true, if_pos rfl, Int32.or_assoc]
      by_cases q : f t = true
      · rw [if_pos q, Int32.or_self]
      · rw [if_neg q, Int32.zero_or]
    · rw [← q_or_b f t n (by omega), decide_eq_false (by omega), Bool.or_false, Int32.or_assoc, Int32.or_assoc, Int32.or_comm ((1 : Int32) <<< (nI t &&& 31))]
theorem q_cnt_e {f g : Nat → Bool} : ∀ n : Nat, (∀ u, u < n → f u = g u) → q_cnt f n = q_cnt g n
  | 0, _ => rfl
  | n + 1, h => by
    unfold q_cnt
    rw [q_cnt_e n (fun u hu => h u (by omega)), h n (by omega)]
theorem q_cnt_b (f : Nat → Bool) (t : Nat) (hf : f t = false) : ∀ n : Nat, t < n → q_cnt (fun u => f u || decide (u = t)) n = q_cnt f n + 1
  | 0, h => absurd h (by omega)
  | n + 1, h => by
    unfold q_cnt
    by_cases e : t = n
    · subst e
      rw [q_cnt_e (f := fun u => f u || decide (u = t)) (g := f) t (fun u hu => by rw [decide_eq_false (by omega), Bool.or_false])]
      simp [hf]
    · rw [q_cnt_b f t hf n (by omega)]
      have e2 : decide (n = t) = false := decide_eq_false (by omega)
      simp only [e2, Bool.or_false]
      omega
theorem q_acc_1 (b : Int32) (f g : Nat → Int32) (r : Nat) (w : Int32) : ∀ n : Nat, (∀ q, q < n → ¬ q = r → g q = f q) → g r = f r + w → q_acc b g n = if r < n then q_acc b f n + w else q_acc b f n
  | 0, _, _ => by rw [if_neg (by omega)]; rfl
  | n + 1, h, hw => by
    have ih := q_acc_1 b f g r w n (fun q hq => h q (by omega)) hw
    unfold q_acc
    rw [ih]
    by_cases e : r = n
    · subst e
      rw [if_neg (by omega), if_pos (by omega), hw, Int32.add_assoc]
    · rw [h n (by omega) (fun q => e q.symm)]
      by_cases k : r < n
      · rw [if_pos k, if_pos (by omega), Int32.add_assoc, Int32.add_comm w, ← Int32.add_assoc]
      · rw [if_neg k, if_neg (by omega)]
theorem q_tsb : ∀ n u : Fin 10, (((1 : Int32) <<< (nI n.val &&& 31)) &&& ((1 : Int32) <<< (nI u.val &&& 31)) = 0) ↔ ¬ n.val = u.val := by decide +kernel
theorem i32_oa (a b c : Int32) : (a ||| b) &&& c = (a &&& c) ||| (b &&& c) := by
  apply Int32.toBitVec_inj.mp
  ext i
  simp [Bool.and_or_distrib_right]
theorem i32_o0 {a b : Int32} : a ||| b = 0 ↔ a = 0 ∧ b = 0 := by
  constructor
  · intro h
    have h := congrArg Int32.toBitVec h
    have h2 := (BitVec.or_eq_zero_iff (x := a.toBitVec) (y := b.toBitVec)).mp h
    exact ⟨Int32.toBitVec_inj.mp h2.1, Int32.toBitVec_inj.mp h2.2⟩
  · rintro ⟨rfl, rfl⟩; rfl
theorem q_tst (f : Nat → Bool) {u : Nat} (hu : u < 10) : ∀ n : Nat, n ≤ 10 → ((q_or f n &&& ((1 : Int32) <<< (nI u &&& 31))) = 0 ↔ ¬ (u < n ∧ f u = true))
  | 0, _ => by simp [q_or]
  | n + 1, h => by
    show ((q_or f n ||| (if f n = true then (1 : Int32) <<< (nI n &&& 31) else 0)) &&& _) = 0 ↔ _
    rw [i32_oa, i32_o0, q_tst f hu n (by omega)]
    by_cases q : f n = true
    · rw [if_pos q, q_tsb ⟨n, by omega⟩ ⟨u, hu⟩]
      constructor
      · rintro ⟨h1, h2⟩ ⟨h3, h4⟩
        exact h1 ⟨by simp only at h2; omega, h4⟩
      · intro h1
        exact ⟨fun h2 => h1 ⟨by omega, h2.2⟩, fun h2 => h1 ⟨by simp only at h2; omega, by simp only at h2; rw [← h2]; exact q⟩⟩
    · rw [if_neg q]
      constructor
      · rintro ⟨h1, _⟩ ⟨h3, h4⟩
        by_cases e : u = n
        · exact q (e ▸ h4)
        · exact h1 ⟨by omega, h4⟩
      · intro h1
        exact ⟨fun h2 => h1 ⟨by omega, h2.2⟩, by simp⟩
theorem lok_up {S : q_St} {t r u : Nat} (ht : t < 10) (hu : u < 10) : lokS (u_loo S (upd (s_loo S) r (s_loo S r ||| ((1 : Int32) <<< (nI t &&& 31))))) u r = (lokS S u r || decide (u = t)) := by
  have h := q_tsb ⟨t, ht⟩ ⟨u, hu⟩
  show decide (¬ (upd (s_loo S) r (s_loo S r ||| ((1 : Int32) <<< (nI t &&& 31))) r &&& ((1 : Int32) <<< (nI u &&& 31))) = 0) = (decide (¬ (s_loo S r &&& ((1 : Int32) <<< (nI u &&& 31))) = 0) || decide (u = t))
  rw [up_eq, i32_oa]
  simp only [i32_o0, h]
  by_cases e : u = t
  · simp [e]
  · have e2 : ¬ t = u := fun q => e q.symm
    simp [e, e2]
theorem lok_un {S : q_St} {r q u : Nat} {x : Int32} (e : ¬ q = r) : lokS (u_loo S (upd (s_loo S) r x)) u q = lokS S u q := by
  show decide (¬ (upd (s_loo S) r x q &&& _) = 0) = _
  rw [up_ne e]; rfl
