/-! what the calls answer, question by question -/
theorem w_isT {S : q_St} {t : Nat} (hn : s_n S ≤ 10) (ht : t < s_n S) : isTm S (nI t) = true := by
  have h1 := nI_pos (n := t) (by omega)
  have h2 : ¬ nI (s_n S) ≤ nI t := fun q => by have := (nI_leI (by omega) (by omega)).mp q; omega
  have h3 : ¬ (10 : Int32) ≤ nI t := fun q => by have := (nI_leI (a := 10) (by decide) (by omega)).mp q; omega
  simp only [isTm, h1, h2, h3, decide_false]; rfl
theorem w_o0 {V : q_CV} {t : Nat} (hn : s_n (v_now V) ≤ 10) (ht : t < s_n (v_now V)) : oftR V (nI t) 0 = scoS (v_now V) t + 1000 := by
  unfold oftR
  rw [w_isT hn ht, tN_n (by omega), if_neg (by decide), if_pos rfl]
theorem w_o1 {V : q_CV} {t : Nat} (hn : s_n (v_now V) ≤ 10) (ht : t < s_n (v_now V)) : oftR V (nI t) 1 = nI (rnkS (v_now V) t) := by
  unfold oftR
  rw [w_isT hn ht, tN_n (by omega), if_neg (by decide), if_neg (by decide), if_pos rfl]
theorem w_o2 {V : q_CV} {t : Nat} (hn : s_n (v_now V) ≤ 10) (ht : t < s_n (v_now V)) : oftR V (nI t) 2 = przS (v_now V) t := by
  unfold oftR
  rw [w_isT hn ht, tN_n (by omega), if_neg (by decide), if_neg (by decide), if_neg (by decide), if_pos rfl]
theorem w_o3 {V : q_CV} {t : Nat} (hn : s_n (v_now V) ≤ 10) (ht : t < s_n (v_now V)) : oftR V (nI t) 3 = s_jok (v_now V) t := by
  unfold oftR
  rw [w_isT hn ht, tN_n (by omega), if_neg (by decide), if_neg (by decide), if_neg (by decide), if_neg (by decide), if_pos rfl]
theorem w_o4 {V : q_CV} {t : Nat} (hn : s_n (v_now V) ≤ 10) (ht : t < s_n (v_now V)) : oftR V (nI t) 4 = s_fin (v_now V) t := by
  unfold oftR
  rw [w_isT hn ht, tN_n (by omega), if_neg (by decide), if_neg (by decide), if_neg (by decide), if_neg (by decide), if_neg (by decide), if_pos rfl]
theorem w_o5 {V : q_CV} {t : Nat} (hn : s_n (v_now V) ≤ 10) (ht : t < s_n (v_now V)) : oftR V (nI t) 5 = s_gue (v_now V) t := by
  unfold oftR
  rw [w_isT hn ht, tN_n (by omega), if_neg (by decide), if_neg (by decide), if_neg (by decide), if_neg (by decide), if_neg (by decide), if_neg (by decide), if_pos rfl]
theorem w_o6 {V : q_CV} {t : Nat} (hn : s_n (v_now V) ≤ 10) (ht : t < s_n (v_now V)) : oftR V (nI t) 6 = q_or (hasS (v_now V) t) 8 := by
  unfold oftR
  rw [w_isT hn ht, tN_n (by omega), if_neg (by decide), if_neg (by decide), if_neg (by decide), if_neg (by decide), if_neg (by decide), if_neg (by decide), if_neg (by decide), if_pos rfl]
theorem w_o7 {V : q_CV} {t : Nat} (hn : s_n (v_now V) ≤ 10) (ht : t < s_n (v_now V)) : oftR V (nI t) 7 = q_or (tldS (v_now V) t) 8 := by
  unfold oftR
  rw [w_isT hn ht, tN_n (by omega), if_neg (by decide), if_neg (by decide), if_neg (by decide), if_neg (by decide), if_neg (by decide), if_neg (by decide), if_neg (by decide), if_neg (by decide), if_pos rfl]
theorem w_o8 {V : q_CV} {t : Nat} (hn : s_n (v_now V) ≤ 10) (ht : t < s_n (v_now V)) : oftR V (nI t) 8 = s_paid (v_now V) t := by
  unfold oftR
  rw [w_isT hn ht, tN_n (by omega), if_neg (by decide), if_neg (by decide), if_neg (by decide), if_neg (by decide), if_neg (by decide), if_neg (by decide), if_neg (by decide), if_neg (by decide), if_neg (by decide), if_pos rfl]
theorem w_o9 {V : q_CV} {t : Nat} (hn : s_n (v_now V) ≤ 10) (ht : t < s_n (v_now V)) : oftR V (nI t) 9 = tieS (v_now V) t := by
  unfold oftR
  rw [w_isT hn ht, tN_n (by omega), if_neg (by decide), if_neg (by decide), if_neg (by decide), if_neg (by decide), if_neg (by decide), if_neg (by decide), if_neg (by decide), if_neg (by decide), if_neg (by decide), if_neg (by decide), if_pos rfl]
theorem w_c0 {V : q_CV} : couR V 0 = nI (s_n (v_now V)) := by
  unfold couR
  rw [if_pos rfl]
theorem w_c1 {V : q_CV} : couR V 1 = entS (v_now V) := by
  unfold couR
  rw [if_neg (by decide), if_pos rfl]
theorem w_c2 {V : q_CV} : couR V 2 = houS (v_now V) := by
  unfold couR
  rw [if_neg (by decide), if_neg (by decide), if_pos rfl]
theorem w_c3 {V : q_CV} : couR V 3 = potS (v_now V) := by
  unfold couR
  rw [if_neg (by decide), if_neg (by decide), if_neg (by decide), if_pos rfl]
theorem w_c4 {V : q_CV} : couR V 4 = q_or (isOp (v_now V)) 8 := by
  unfold couR
  rw [if_neg (by decide), if_neg (by decide), if_neg (by decide), if_neg (by decide), if_pos rfl]
theorem w_c5 {V : q_CV} : couR V 5 = finA (v_now V) := by
  unfold couR
  rw [if_neg (by decide), if_neg (by decide), if_neg (by decide), if_neg (by decide), if_neg (by decide), if_pos rfl]
theorem w_c6 {V : q_CV} : couR V 6 = looA (v_now V) := by
  unfold couR
  rw [if_neg (by decide), if_neg (by decide), if_neg (by decide), if_neg (by decide), if_neg (by decide), if_neg (by decide), if_pos rfl]
theorem w_c7 {V : q_CV} : couR V 7 = s_tru (v_now V) := by
  unfold couR
  rw [if_neg (by decide), if_neg (by decide), if_neg (by decide), if_neg (by decide), if_neg (by decide), if_neg (by decide), if_neg (by decide), if_pos rfl]
theorem w_c9 {V : q_CV} : couR V 9 = s_set (v_now V) 0 := by
  unfold couR
  rw [if_neg (by decide), if_neg (by decide), if_neg (by decide), if_neg (by decide), if_neg (by decide), if_neg (by decide), if_neg (by decide), if_neg (by decide), if_neg (by decide), if_pos rfl]
theorem w_c10 {V : q_CV} : couR V 10 = s_set (v_now V) 1 := by
  unfold couR
  rw [if_neg (by decide), if_neg (by decide), if_neg (by decide), if_neg (by decide), if_neg (by decide), if_neg (by decide), if_neg (by decide), if_neg (by decide), if_neg (by decide), if_neg (by decide), if_pos rfl]
theorem w_c11 {V : q_CV} : couR V 11 = s_set (v_now V) 2 := by
  unfold couR
  rw [if_neg (by decide), if_neg (by decide), if_neg (by decide), if_neg (by decide), if_neg (by decide), if_neg (by decide), if_neg (by decide), if_neg (by decide), if_neg (by decide), if_neg (by decide), if_neg (by decide), if_pos rfl]
theorem w_c12 {V : q_CV} : couR V 12 = s_set (v_now V) 3 := by
  unfold couR
  rw [if_neg (by decide), if_neg (by decide), if_neg (by decide), if_neg (by decide), if_neg (by decide), if_neg (by decide), if_neg (by decide), if_neg (by decide), if_neg (by decide), if_neg (by decide), if_neg (by decide), if_neg (by decide), if_pos rfl]
theorem w_c13 {V : q_CV} : couR V 13 = nI (v_pl V) := by
  unfold couR
  rw [if_neg (by decide), if_neg (by decide), if_neg (by decide), if_neg (by decide), if_neg (by decide), if_neg (by decide), if_neg (by decide), if_neg (by decide), if_neg (by decide), if_neg (by decide), if_neg (by decide), if_neg (by decide), if_neg (by decide), if_pos rfl]
theorem w_r0 {V : q_CV} {r : Nat} (hr : r < 8) : ofrR V (nI r) 0 = bI (isOp (v_now V) r) := by
  unfold ofrR
  rw [isRd_t hr, tN_n (by omega), if_neg (by decide), if_pos rfl]
theorem w_r1 {V : q_CV} {r : Nat} (hr : r < 8) : ofrR V (nI r) 1 = q_or (fun t => hasS (v_now V) t r) (s_n (v_now V)) := by
  unfold ofrR
  rw [isRd_t hr, tN_n (by omega), if_neg (by decide), if_neg (by decide), if_pos rfl]
theorem w_r2 {V : q_CV} {r : Nat} (hr : r < 8) : ofrR V (nI r) 2 = q_or (fun t => decide (s_jok (v_now V) t = nI r)) (s_n (v_now V)) := by
  unfold ofrR
  rw [isRd_t hr, tN_n (by omega), if_neg (by decide), if_neg (by decide), if_neg (by decide), if_pos rfl]
theorem w_r3 {V : q_CV} {r : Nat} (hr : r < 8) : ofrR V (nI r) 3 = q_or (fun t => tldS (v_now V) t r) (s_n (v_now V)) := by
  unfold ofrR
  rw [isRd_t hr, tN_n (by omega), if_neg (by decide), if_neg (by decide), if_neg (by decide), if_neg (by decide), if_pos rfl]
theorem w_r4 {V : q_CV} {r : Nat} (hr : r < 8) : ofrR V (nI r) 4 = s_loo (v_now V) r := by
  unfold ofrR
  rw [isRd_t hr, tN_n (by omega), if_neg (by decide), if_neg (by decide), if_neg (by decide), if_neg (by decide), if_neg (by decide), if_pos rfl]
theorem w_sn {V : q_CV} {t r : Nat} (w : Int32) (hn : s_n (v_now V) ≤ 10) (ht : t < s_n (v_now V)) (hr : r < 8) (h : hasS (v_now V) t r = false) : sheR V (nI t) (nI r) w = -1 := by
  unfold sheR
  rw [w_isT hn ht, isRd_t hr, tN_n (by omega), tN_n (by omega), h, if_neg (by decide), if_neg (by decide), if_pos rfl]
theorem w_s0 {V : q_CV} {t r : Nat} (hn : s_n (v_now V) ≤ 10) (ht : t < s_n (v_now V)) (hr : r < 8) (h : hasS (v_now V) t r = true) : sheR V (nI t) (nI r) 0 = (if tldS (v_now V) t r = true then s_mar (v_now V) (t * 8 + r) + 100 else -6) := by
  unfold sheR
  rw [w_isT hn ht, isRd_t hr, tN_n (by omega), tN_n (by omega), h, if_neg (by decide), if_neg (by decide), if_neg (by decide), if_pos rfl]
theorem w_s1 {V : q_CV} {t r : Nat} (hn : s_n (v_now V) ≤ 10) (ht : t < s_n (v_now V)) (hr : r < 8) (h : hasS (v_now V) t r = true) : sheR V (nI t) (nI r) 1 = s_mkr (v_now V) (t * 8 + r) := by
  unfold sheR
  rw [w_isT hn ht, isRd_t hr, tN_n (by omega), tN_n (by omega), h, if_neg (by decide), if_neg (by decide), if_neg (by decide), if_neg (by decide), if_pos rfl]
theorem w_s2 {V : q_CV} {t r : Nat} (hn : s_n (v_now V) ≤ 10) (ht : t < s_n (v_now V)) (hr : r < 8) (h : hasS (v_now V) t r = true) : sheR V (nI t) (nI r) 2 = ptsS (v_now V) t r + 100 := by
  unfold sheR
  rw [w_isT hn ht, isRd_t hr, tN_n (by omega), tN_n (by omega), h, if_neg (by decide), if_neg (by decide), if_neg (by decide), if_neg (by decide), if_neg (by decide), if_pos rfl]
theorem w_s3 {V : q_CV} {t r : Nat} (hn : s_n (v_now V) ≤ 10) (ht : t < s_n (v_now V)) (hr : r < 8) (h : hasS (v_now V) t r = true) : sheR V (nI t) (nI r) 3 = (if isOp (v_now V) r = true then -6 else truM (v_now V) t r + 100) := by
  unfold sheR
  rw [w_isT hn ht, isRd_t hr, tN_n (by omega), tN_n (by omega), h, if_neg (by decide), if_neg (by decide), if_neg (by decide), if_neg (by decide), if_neg (by decide), if_neg (by decide), if_pos rfl]
theorem w_s4 {V : q_CV} {t r : Nat} (hn : s_n (v_now V) ≤ 10) (ht : t < s_n (v_now V)) (hr : r < 8) (h : hasS (v_now V) t r = true) : sheR V (nI t) (nI r) 4 = nI (ansN (v_now V) t r) := by
  unfold sheR
  rw [w_isT hn ht, isRd_t hr, tN_n (by omega), tN_n (by omega), h, if_neg (by decide), if_neg (by decide), if_neg (by decide), if_neg (by decide), if_neg (by decide), if_neg (by decide), if_neg (by decide), if_pos rfl]
theorem w_mo {V : q_CV} {t : Nat} (hn : s_n (v_now V) ≤ 10) (ht : t < s_n (v_now V)) : mosR V (nI t) = gscS (v_now V) t + 1000 := by
  unfold mosR
  rw [w_isT hn ht, tN_n (by omega), if_neg (by decide)]
theorem w_be {V : q_CV} {t : Nat} (hn : s_n (v_now V) ≤ 10) (ht : t < s_n (v_now V)) : bejR V (nI t) 1 = swjS (v_now V) t (nI (besS (v_now V) t 8)) + 1000 := by
  unfold bejR
  rw [w_isT hn ht, tN_n (by omega), if_neg (by decide), if_neg (by decide), if_pos rfl]
