/-! what each act keeps -/
theorem iv_up {K : Nat} {V : q_CV} (h : q_iv K V) : q_iv (K + 1) V := ⟨ok_up (Nat.le_succ K) h.1, h.2⟩
theorem iv_w {K : Nat} {V : q_CV} {S : q_St} (h : q_iv K V) (ho : q_ok (K + 1) S) (hp : q_px S) : q_iv (K + 1) (w_now (v_rec V) S) := by
  obtain ⟨-, -, h3, h4, h5⟩ := h
  refine ⟨ho, hp, h3, ?_, ?_⟩
  · show (if v_hl V < 6 then v_hl V + 1 else 6) ≤ 6
    split <;> omega
  · show (if v_nxt V = 5 then 0 else v_nxt V + 1) < 6
    split <;> omega
theorem iv_w0 {K : Nat} {V : q_CV} {S : q_St} (h : q_iv K V) (ho : q_ok (K + 1) S) (hp : q_px S) : q_iv (K + 1) (w_pl (w_now (v_rec V) S) 0) := by
  obtain ⟨h1, h2, h3, h4, h5⟩ := iv_w h ho hp
  exact ⟨h1, h2, Nat.zero_le _, h4, h5⟩
theorem px_tea {S : q_St} (h : q_px S) : q_px (teaS S) := by
  obtain ⟨h1, h2, h3, h4⟩ := h
  refine ⟨show 3 ≤ s_n S + 1 by omega, fun t ht => ?_, h3, h4⟩
  show ∃ v, v ≤ 100 ∧ upd (s_paid S) (s_n S) (s_set S 0) t = nI v
  by_cases c : t = s_n S
  · subst c; rw [up_eq]; exact h3
  · rw [up_ne c]; exact h2 t ht
theorem iv_tea {K : Nat} {V : q_CV} (h : q_iv K V) : q_iv (K + 1) (teaV V) := by
  by_cases e : teaE V = 0
  · rw [show teaV V = _ from if_pos e]
    exact iv_w h (ok_up (Nat.le_succ K) (ok_teau h.1 (teaE_0 e).1)) (px_tea h.2.1)
  · rw [show teaV V = _ from if_neg e]
    exact iv_up h
theorem tsh_t {C : Nat → Int32} {n : Nat} (h : tshP C n = true) : n = 10 ∧ ∀ k, k < 10 → isSg (C k) = true := fau_iff.mp (of_decide_eq_true h)
theorem tky_t {C : Nat → Int32} {n : Nat} (h : tkyP C n = true) : n = 10 ∧ ∀ k, k < 10 → isDg (C k) = true := by
  unfold tkyP at h
  simp only [Bool.and_eq_true, Bool.not_eq_true'] at h
  refine ⟨(tsh_t h.1).1, fun k hk => ?_⟩
  have := q_any_at h.2 hk
  simpa using this
theorem key_o {C : Nat → Int32} (h : ∀ k, k < 10 → isDg (C k) = true) : ∀ k, k < 10 → ∃ d, d ≤ 9 ∧ sgn (sigs C 10) k = nI d := fun k hk => by
  rw [sg_k C hk]; exact sgv_dg (h k hk)
theorem han_o {C : Nat → Int32} (h : ∀ k, k < 10 → isSg (C k) = true) : ∀ k, k < 10 → sgn (sigs C 10) k = 15 ∨ ∃ d, d ≤ 9 ∧ sgn (sigs C 10) k = nI d := fun k hk => by
  rw [sg_k C hk]; exact sgv_sg (h k hk)
theorem iv_han {K : Nat} {V : q_CV} (h : q_iv K V) (x y : Int32) : q_iv (K + 1) (hanV V x y) := by
  have ho := h.1
  have hn := ok_n ho
  by_cases e : hanE V x y = 0
  · rw [show hanV V x y = _ from if_pos e]
    obtain ⟨e1, e2, e3, e4, e5⟩ := hanE_0 e
    obtain ⟨t, ht, htx, rfl⟩ := isTm_of hn e1
    have ct : tN (nI t) = t := tN_n (by omega)
    obtain ⟨r, hr, rfl⟩ := isRd_of e2
    have cr : tN (nI r) = r := tN_n (by omega)
    rw [ct, cr]
    exact iv_w0 h (ok_up (Nat.le_succ K) (ok_hanu ho ht hr (sg_ne _) (han_o (tsh_t e3).2))) h.2.1
  · rw [show hanV V x y = _ from if_neg e]
    exact iv_up h
theorem iv_jok {K : Nat} {V : q_CV} (h : q_iv K V) (x y : Int32) : q_iv (K + 1) (jokV V x y) := by
  have ho := h.1
  have hn := ok_n ho
  by_cases e : jokE V x y = 0
  · rw [show jokV V x y = _ from if_pos e]
    obtain ⟨e1, e2, e3, e4, e5⟩ := jokE_0 e
    obtain ⟨t, ht, htx, rfl⟩ := isTm_of hn e1
    have ct : tN (nI t) = t := tN_n (by omega)
    obtain ⟨r, hr, rfl⟩ := isRd_of e2
    have cr : tN (nI r) = r := tN_n (by omega)
    rw [ct, cr]
    exact iv_w h (ok_up (Nat.le_succ K) (ok_joku ho htx hr)) h.2.1
  · rw [show jokV V x y = _ from if_neg e]
    exact iv_up h
theorem iv_key {K : Nat} {V : q_CV} (h : q_iv K V) (y : Int32) : q_iv (K + 1) (keyV V y) := by
  have ho := h.1
  by_cases e : keyE V y = 0
  · rw [show keyV V y = _ from if_pos e]
    obtain ⟨e1, e2, e3⟩ := keyE_0 e
    obtain ⟨r, hr, rfl⟩ := isRd_of e1
    have cr : tN (nI r) = r := tN_n (by omega)
    rw [cr]
    exact iv_w0 h (ok_up (Nat.le_succ K) (ok_keyu ho hr (sg_ne _) (key_o (tky_t e2).2))) h.2.1
  · rw [show keyV V y = _ from if_neg e]
    exact iv_up h
theorem iv_mar {K : Nat} {V : q_CV} (h : q_iv K V) (m x y k : Int32) : q_iv (K + 1) (marV V m x y k) := by
  have ho := h.1
  have hn := ok_n ho
  by_cases e : marE V m x y k = 0
  · rw [show marV V m x y k = _ from if_pos e]
    obtain ⟨e1, e2, e3, e4, e5, e6, e7, e8, e9⟩ := marE_0 e
    obtain ⟨o, hO, hOx, rfl⟩ := isTm_of hn e1
    have co : tN (nI o) = o := tN_n (by omega)
    obtain ⟨t, ht, htx, rfl⟩ := isTm_of hn e2
    have ct : tN (nI t) = t := tN_n (by omega)
    obtain ⟨r, hr, rfl⟩ := isRd_of e3
    have cr : tN (nI r) = r := tN_n (by omega)
    rw [cr] at e7
    rw [ct, cr] at e8
    rw [ct, cr, co]
    have k1 : -20 ≤ k.toInt := by have := Int32.le_iff_toInt_le.mp (Int32.not_lt.mp e5); rwa [show (-20 : Int32).toInt = -20 from by decide] at this
    have k2 : k.toInt ≤ 10 := by have := Int32.le_iff_toInt_le.mp e6; rwa [show (10 : Int32).toInt = 10 from by decide] at this
    exact iv_w h (ok_up (Nat.le_succ K) (ok_maru ho hO htx hr k1 k2 e8 e7)) h.2.1
  · rw [show marV V m x y k = _ from if_neg e]
    exact iv_up h
theorem ok_lokT {S : q_St} {K : Nat} (ho : q_ok K S) {t r : Nat} (ht : t < s_n S) (hr : r < 8) (hT : tldS S t r = true) : q_ok (K + 1) (lokT S t r) ∧ (q_px S → q_px (lokT S t r)) ∧ s_mar (lokT S t r) = upd (s_mar S) (t * 8 + r) (truM S t r) ∧ s_mkr (lokT S t r) = s_mkr S ∧ s_she (lokT S t r) = s_she S ∧ s_n (lokT S t r) = s_n S := by
  have hn := ok_n ho
  have htx : t < 10 := by omega
  obtain ⟨m, hm, em⟩ := ok_mk ho htx hr hT
  have cm : tN (nI m) = m := tN_n (by omega)
  obtain ⟨j, hj, ej⟩ := ok_fin ho (t := m) (by omega)
  have hg := truM_rg ho t r
  have h1 : q_ok (K + 1) (lokF S t r) ∧ s_mar (lokF S t r) = s_mar S ∧ s_loo (lokF S t r) = s_loo S ∧ s_n (lokF S t r) = s_n S ∧ s_mkr (lokF S t r) = s_mkr S ∧ s_paid (lokF S t r) = s_paid S ∧ s_set (lokF S t r) = s_set S ∧ s_she (lokF S t r) = s_she S := by
    unfold lokF
    rw [em, cm]
    cases c : wroS S t r with
    | true =>
      rw [if_pos rfl]
      refine ⟨?_, rfl, rfl, rfl, rfl, rfl, rfl, rfl⟩
      have e : s_fin S m + 1 = nI (j + 1) := by rw [ej, nI_1]
      rw [e]
      exact ok_finu ho (by omega) (by omega)
    | false =>
      rw [if_neg (by decide)]
      exact ⟨ok_up (Nat.le_succ K) ho, rfl, rfl, rfl, rfl, rfl, rfl, rfl⟩
  obtain ⟨o1, g1, g2, g3, g4, g5, g6, g7⟩ := h1
  have o2 := ok_mru o1 htx hr hg.1 hg.2
  have hT2 : tldS (u_mar (lokF S t r) (upd (s_mar (lokF S t r)) (t * 8 + r) (truM S t r))) t r = true := by
    show decide (¬ s_mkr (lokF S t r) (t * 8 + r) = -6) = true
    rw [g4]; exact hT
  have ht2 : t < s_n (u_mar (lokF S t r) (upd (s_mar (lokF S t r)) (t * 8 + r) (truM S t r))) := by
    show t < s_n (lokF S t r)
    rw [g3]; exact ht
  have o3 := ok_loku o2 ht2 hr hT2
  have eT : lokT S t r = u_loo (u_mar (lokF S t r) (upd (s_mar (lokF S t r)) (t * 8 + r) (truM S t r))) (upd (s_loo (u_mar (lokF S t r) (upd (s_mar (lokF S t r)) (t * 8 + r) (truM S t r)))) r (s_loo (u_mar (lokF S t r) (upd (s_mar (lokF S t r)) (t * 8 + r) (truM S t r))) r ||| ((1 : Int32) <<< (nI t &&& 31)))) := by
    show u_loo (u_mar (lokF S t r) (upd (s_mar S) (t * 8 + r) (truM S t r))) (upd (s_loo S) r (s_loo S r ||| ((1 : Int32) <<< (nI t &&& 31)))) = u_loo (u_mar (lokF S t r) (upd (s_mar (lokF S t r)) (t * 8 + r) (truM S t r))) (upd (s_loo (lokF S t r)) r (s_loo (lokF S t r) r ||| ((1 : Int32) <<< (nI t &&& 31))))
    rw [g1, g2]
  rw [← eT] at o3
  have p1 : s_n (lokT S t r) = s_n S := g3
  have p2 : s_paid (lokT S t r) = s_paid S := g5
  have p3 : s_set (lokT S t r) = s_set S := g6
  refine ⟨o3, fun hp => ?_, rfl, g4, g7, p1⟩
  unfold q_px
  rw [p1, p2, p3]
  exact hp
theorem iv_lok {K : Nat} {V : q_CV} (h : q_iv K V) (x y : Int32) : q_iv (K + 1) (lokV V x y) := by
  have ho := h.1
  have hn := ok_n ho
  by_cases e : lokE V x y = 0
  · rw [show lokV V x y = _ from if_pos e]
    obtain ⟨e1, e2, e3, e4⟩ := lokE_0 e
    obtain ⟨t, ht, htx, rfl⟩ := isTm_of hn e1
    have ct : tN (nI t) = t := tN_n (by omega)
    obtain ⟨r, hr, rfl⟩ := isRd_of e2
    have cr : tN (nI r) = r := tN_n (by omega)
    rw [ct, cr] at e3
    rw [ct, cr]
    have k := ok_lokT ho ht hr e3
    exact iv_w h k.1 (k.2.1 h.2.1)
  · rw [show lokV V x y = _ from if_neg e]
    exact iv_up h
theorem iv_gue {K : Nat} {V : q_CV} (h : q_iv K V) (x y : Int32) : q_iv (K + 1) (gueV V x y) := by
  have ho := h.1
  have hn := ok_n ho
  by_cases e : gueE V x y = 0
  · rw [show gueV V x y = _ from if_pos e]
    obtain ⟨e1, e2, e3, e4⟩ := gueE_0 e
    obtain ⟨t, ht, htx, rfl⟩ := isTm_of hn e1
    have ct : tN (nI t) = t := tN_n (by omega)
    obtain ⟨v, hv, rfl⟩ := nI_of e2
    have hv2 := (nI_leI (b := 9999) hv (by decide)).mp e3
    rw [ct]
    exact iv_w h (ok_up (Nat.le_succ K) (ok_gueu ho htx hv2)) h.2.1
  · rw [show gueV V x y = _ from if_neg e]
    exact iv_up h
theorem iv_tru {K : Nat} {V : q_CV} (h : q_iv K V) (y : Int32) : q_iv (K + 1) (truV V y) := by
  have ho := h.1
  by_cases e : truE V y = 0
  · rw [show truV V y = _ from if_pos e]
    obtain ⟨e2, e3, e4⟩ := truE_0 e
    obtain ⟨v, hv, rfl⟩ := nI_of e2
    have hv2 := (nI_leI (b := 9999) hv (by decide)).mp e3
    exact iv_w h (ok_up (Nat.le_succ K) (ok_truu ho hv2)) h.2.1
  · rw [show truV V y = _ from if_neg e]
    exact iv_up h
theorem iv_set {K : Nat} {V : q_CV} (h : q_iv K V) (x y : Int32) : q_iv (K + 1) (setV V x y) := by
  have ho := h.1
  by_cases e : setE x y = 0
  · rw [show setV V x y = _ from if_pos e]
    obtain ⟨e1, e2, e3, e4⟩ := setE_0 e
    obtain ⟨j, hj, rfl⟩ := nI_of e1
    have hj2 : j ≤ 3 := Nat.not_lt.mp fun q => e2 ((nI_ltI (a := 3) (by decide) hj).mpr q)
    have cj : tN (nI j) = j := tN_n hj
    rw [cj] at e3 e4
    rw [cj]
    obtain ⟨p1, p2, p3, p4⟩ := h.2.1
    refine iv_w h (ok_up (Nat.le_succ K) (ok_setu ho y ?_ ?_)) ⟨p1, p2, ?_, ?_⟩
    · rintro rfl
      obtain ⟨v, hv, rfl⟩ := nI_of (x := y) e3
      exact ⟨v, (nI_leI (b := 2) hv (by decide)).mp e4, rfl⟩
    · rintro rfl
      obtain ⟨v, hv, rfl⟩ := nI_of (x := y) e3
      exact ⟨v, (nI_leI (b := 9) hv (by decide)).mp e4, rfl⟩
    · show ∃ v, v ≤ 100 ∧ upd (s_set (v_now V)) j y 0 = nI v
      by_cases c : 0 = j
      · subst c
        rw [up_eq]
        have e5 : ¬ y < 0 := fun q => e3 (Int32.lt_of_lt_of_le q (by decide))
        obtain ⟨v, hv, rfl⟩ := nI_of e5
        exact ⟨v, (nI_leI (b := 100) hv (by decide)).mp e4, rfl⟩
      · rw [up_ne c]; exact p3
    · show ∃ v, v ≤ 50 ∧ upd (s_set (v_now V)) j y 1 = nI v
      by_cases c : 1 = j
      · subst c
        rw [up_eq]
        obtain ⟨v, hv, rfl⟩ := nI_of (x := y) e3
        exact ⟨v, (nI_leI (b := 50) hv (by decide)).mp e4, rfl⟩
      · rw [up_ne c]; exact p4
  · rw [show setV V x y = _ from if_neg e]
    exact iv_up h
