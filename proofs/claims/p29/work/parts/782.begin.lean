/-! the first calls of the law -/
theorem S0_has {t r : Nat} (ht : t < 10) (hr : r < 8) : hasS q_S0 t r = false := by
  show decide (¬ flL (fun _ => 0) (-1) 80 (t * 8 + r) = -1) = false
  rw [show flL (fun _ => 0) (-1) 80 (t * 8 + r) = -1 from if_pos (by omega)]
  exact decide_eq_false fun q => q rfl
theorem S0_tld {t r : Nat} (ht : t < 10) (hr : r < 8) : tldS q_S0 t r = false := by
  show decide (¬ flF (fun _ => 0) (-6) 80 (t * 8 + r) = -6) = false
  rw [show flF (fun _ => 0) (-6) 80 (t * 8 + r) = -6 from if_pos (by omega)]
  exact decide_eq_false fun q => q rfl
theorem i32_z0 (x : Int32) : (0 : Int32) &&& x = 0 := by
  first | (apply Int32.toBitVec_inj.mp; simp; done) | simp
theorem S0_lok (t r : Nat) : lokS q_S0 t r = false := by
  show decide (¬ ((0 : Int32) &&& ((1 : Int32) <<< (nI t &&& 31))) = 0) = false
  rw [i32_z0]
  exact decide_eq_false fun q => q rfl
theorem S0_op {r : Nat} (hr : r < 8) : isOp q_S0 r = true := decide_eq_true (if_pos hr)
theorem ok_S0 : q_ok 0 q_S0 := by
  refine ⟨?_, ?_, ?_, ?_, ?_, ?_, ?_, ?_, ?_, ?_, ?_, ?_, ?_⟩
  · exact Nat.zero_le 10
  · exact fun t _ => ⟨0, Nat.le_refl 0, rfl⟩
  · intro t r ht hr h
    rw [S0_tld ht hr] at h; cases h
  · intro t r ht hr h
    rw [S0_lok] at h; cases h
  · exact fun r _ => rfl
  · exact fun t ht => Or.inl (if_pos ht)
  · exact fun t ht => Or.inl (if_pos ht)
  · exact Or.inl rfl
  · exact ⟨0, by decide, rfl⟩
  · exact ⟨2, by decide, rfl⟩
  · intro r hr h
    rw [S0_op hr] at h; cases h
  · intro t r ht hr h
    rw [S0_has ht hr] at h; cases h
  · exact fun t _ ht r hr => S0_has ht hr
theorem z_und : undR q_V0 = -5 ∧ undV q_V0 = q_V0 := ⟨rfl, rfl⟩
theorem z_res : resR q_V0 0 = -5 ∧ resV q_V0 0 = q_V0 := by
  have e : resE q_V0 (nI 0) = -5 := by
    unfold resE
    rw [if_neg (show ¬ isSl (nI 0) = false by decide), if_pos (show v_sav q_V0 (tN (nI 0)) = 0 from rfl)]
  have e : resE q_V0 0 = -5 := e
  refine ⟨?_, ?_⟩
  · unfold resR
    rw [e, if_neg (by decide)]
  · unfold resV
    rw [e, if_neg (by decide)]
theorem z_can : canR q_V0 = 0 := rfl
theorem z_ofr : ofrR q_V0 0 5 = -6 := by
  show ofrR q_V0 (nI 0) 5 = -6
  unfold ofrR
  rw [isRd_t (by decide), if_neg (by decide), if_neg (by decide), if_neg (by decide), if_neg (by decide), if_neg (by decide), if_neg (by decide), if_pos rfl, if_pos (show s_n (v_now q_V0) = 0 from rfl)]
theorem z_cou : couR q_V0 3 = 0 := by
  rw [w_c3]
  show (0 : Int32) - 0 * s_set q_S0 1 / 100 = 0
  rw [Int32.zero_mul]; decide
theorem z_op : q_or (isOp q_S0) 8 = 255 := by
  rw [q_or_c (g := fun _ => true) 8 fun u hu => S0_op hu]; decide
theorem tea_go {V : q_CV} (hn : s_n (v_now V) < 10) (h : q_or (isOp (v_now V)) 8 = 255) : teaR V = nI (s_n (v_now V)) ∧ teaV V = w_now (v_rec V) (teaS (v_now V)) := by
  have e := tea_e (V := V) (by omega) (by omega) h
  exact ⟨if_pos e, if_pos e⟩
def z_V1 : q_CV := w_now (v_rec q_V0) (teaS q_S0)
def z_V2 : q_CV := w_now (v_rec z_V1) (teaS (v_now z_V1))
def z_V3 : q_CV := w_now (v_rec z_V2) (teaS (v_now z_V2))
theorem z_t1 : teaR q_V0 = 0 ∧ teaV q_V0 = z_V1 := tea_go (V := q_V0) (show 0 < 10 by decide) z_op
theorem z_t2 : teaR z_V1 = 1 ∧ teaV z_V1 = z_V2 := tea_go (V := z_V1) (show 1 < 10 by decide) z_op
theorem z_t3 : teaR z_V2 = 2 ∧ teaV z_V2 = z_V3 := tea_go (V := z_V2) (show 2 < 10 by decide) z_op
theorem z_w0 : s_n (v_now q_V0) ≤ 10 ∧ v_pl q_V0 ≤ 80 ∧ v_hl q_V0 ≤ 6 ∧ v_nxt q_V0 < 6 := ⟨show 0 ≤ 10 by decide, show 0 ≤ 80 by decide, show 0 ≤ 6 by decide, show 0 < 6 by decide⟩
theorem z_w1 : s_n (v_now z_V1) ≤ 10 ∧ v_pl z_V1 ≤ 80 ∧ v_hl z_V1 ≤ 6 ∧ v_nxt z_V1 < 6 := ⟨show 1 ≤ 10 by decide, show 0 ≤ 80 by decide, show 1 ≤ 6 by decide, show 1 < 6 by decide⟩
theorem z_w2 : s_n (v_now z_V2) ≤ 10 ∧ v_pl z_V2 ≤ 80 ∧ v_hl z_V2 ≤ 6 ∧ v_nxt z_V2 < 6 := ⟨show 2 ≤ 10 by decide, show 0 ≤ 80 by decide, show 2 ≤ 6 by decide, show 2 < 6 by decide⟩
theorem z_px : q_px (v_now z_V3) := by
  refine ⟨show 3 ≤ 3 by decide, fun t _ => ?_, ⟨10, by decide, rfl⟩, ⟨10, by decide, rfl⟩⟩
  show ∃ v, v ≤ 100 ∧ upd (upd (upd (fun _ => 0) 0 (s_set q_S0 0)) 1 (s_set q_S0 0)) 2 (s_set q_S0 0) t = nI v
  have e : s_set q_S0 0 = nI 10 := rfl
  rw [e]
  by_cases c2 : t = 2
  · subst c2; exact ⟨10, by decide, up_eq⟩
  · rw [up_ne c2]
    by_cases c1 : t = 1
    · subst c1; exact ⟨10, by decide, up_eq⟩
    · rw [up_ne c1]
      by_cases c0 : t = 0
      · subst c0; exact ⟨10, by decide, up_eq⟩
      · rw [up_ne c0]; exact ⟨0, by decide, rfl⟩
theorem z_iv : q_iv 0 z_V3 := by
  have o1 := ok_teau ok_S0 (show s_n q_S0 < 10 from (show 0 < 10 by decide))
  have o2 := ok_teau o1 (show s_n (teaS q_S0) < 10 from (show 1 < 10 by decide))
  have o3 := ok_teau o2 (show s_n (teaS (teaS q_S0)) < 10 from (show 2 < 10 by decide))
  exact ⟨o3, z_px, show 0 ≤ 80 by decide, show 3 ≤ 6 by decide, show 3 < 6 by decide⟩
/-- the worlds of the law's acts -/
def lawV (L : Nat) (xs : Nat → Int32) : Nat → q_CV
  | 0 => z_V3
  | k + 1 => actV (lawV L xs k) (celN L xs k)
theorem iv_law (L : Nat) (xs : Nat → Int32) : ∀ k : Nat, q_iv (2 * k) (lawV L xs k)
  | 0 => z_iv
  | k + 1 => iv_act (iv_law L xs k) _
/-! the last calls of the law -/
def e_a (V : q_CV) : q_CV := w_sav (w_sx V (va_up (v_sx V) 8 (v_now V))) (upd (v_sav V) 1 1)
def e_b (V : q_CV) : q_CV := w_now (v_rec (e_a V)) (u_set (v_now V) (upd (s_set (v_now V)) 3 9))
def e_c (V : q_CV) : q_CV := w_now (v_rec (e_b V)) (u_set (v_now (e_b V)) (upd (s_set (v_now (e_b V))) 2 2))
def e_d (V : q_CV) : q_CV := w_now (v_rec (e_c V)) (v_now V)
theorem e_sav (V : q_CV) : savR V 1 = nI (s_n (v_now V)) ∧ savV V 1 = e_a V := by
  have e : savE (nI 1) = 0 := by
    unfold savE
    rw [if_neg (show ¬ isSl (nI 1) = false by decide)]
  have e : savE 1 = 0 := e
  have t1 : tN (1 : Int32) = 1 := tN_n (t := 1) (by decide)
  refine ⟨?_, ?_⟩
  · unfold savR
    rw [e, if_pos rfl]
  · unfold savV
    rw [e, if_pos rfl, t1]; rfl
theorem e_iva {K : Nat} {V : q_CV} (h : q_iv K V) : q_iv K (e_a V) := h
theorem e_set3 {K : Nat} {V : q_CV} (h : q_iv K V) : ¬ setR V 3 9 < 0 ∧ setV V 3 9 = w_now (v_rec V) (u_set (v_now V) (upd (s_set (v_now V)) 3 9)) := by
  have t3 : tN (3 : Int32) = 3 := tN_n (t := 3) (by decide)
  have e : setE 3 9 = 0 := by
    unfold setE
    rw [t3, if_neg (by decide), if_neg (by decide), if_neg (by decide), if_neg (by decide)]
  refine ⟨?_, ?_⟩
  · unfold setR
    rw [e, if_pos rfl, t3]
    obtain ⟨v, hv, ev⟩ := ok_s3 h.1
    rw [ev]; exact nI_pos (by omega)
  · unfold setV
    rw [e, if_pos rfl, t3]
theorem e_set2 {K : Nat} {V : q_CV} (h : q_iv K V) : ¬ setR V 2 2 < 0 ∧ setV V 2 2 = w_now (v_rec V) (u_set (v_now V) (upd (s_set (v_now V)) 2 2)) := by
  have t2 : tN (2 : Int32) = 2 := tN_n (t := 2) (by decide)
  have e : setE 2 2 = 0 := by
    unfold setE
    rw [t2, if_neg (by decide), if_neg (by decide), if_neg (by decide), if_neg (by decide)]
  refine ⟨?_, ?_⟩
  · unfold setR
    rw [e, if_pos rfl, t2]
    obtain ⟨v, hv, ev⟩ := ok_s2 h.1
    rw [ev]; exact nI_pos (by omega)
  · unfold setV
    rw [e, if_pos rfl, t2]
theorem e_ivb {K : Nat} {V : q_CV} (h : q_iv K V) : q_iv (K + 1) (e_b V) := by
  have := iv_set (e_iva h) 3 9
  rw [(e_set3 (e_iva h)).2] at this
  exact this
theorem e_ivc {K : Nat} {V : q_CV} (h : q_iv K V) : q_iv (K + 2) (e_c V) := by
  have := iv_set (e_ivb h) 2 2
  rw [(e_set2 (e_ivb h)).2] at this
  exact this
theorem e_ivd {K : Nat} {V : q_CV} (h : q_iv K V) : q_iv (K + 3) (e_d V) :=
  iv_w (e_ivc h) (ok_up (by omega) h.1) h.2.1
theorem e_sx {K : Nat} {V : q_CV} (h : q_iv K V) : v_sx (e_c V) 8 = v_now V := by
  have hb := (e_ivb h).2.2.2.2
  have ha := (e_iva h).2.2.2.2
  show va_up (v_sx (e_b V)) (v_nxt (e_b V) + 1) (v_now (e_b V)) 8 = v_now V
  have n1 : ¬ 8 = v_nxt (e_b V) + 1 := by omega
  have n2 : ¬ 8 = v_nxt (e_a V) + 1 := by omega
  refine (va_up_n n1).trans ?_
  show va_up (v_sx (e_a V)) (v_nxt (e_a V) + 1) (v_now (e_a V)) 8 = v_now V
  refine (va_up_n n2).trans ?_
  show va_up (v_sx V) 8 (v_now V) 8 = v_now V
  exact va_up_e
theorem e_res {K : Nat} {V : q_CV} (h : q_iv K V) : resR (e_c V) 1 = nI (s_n (v_now V)) ∧ resV (e_c V) 1 = e_d V := by
  have t1 : tN (1 : Int32) = 1 := tN_n (t := 1) (by decide)
  have hs : v_sav (e_c V) 1 = 1 := by
    show upd (v_sav V) 1 1 1 = 1
    exact up_eq
  have s1 : isSl 1 = true := (show isSl (nI 1) = true by decide)
  have e : resE (e_c V) 1 = 0 := by
    unfold resE
    rw [s1, if_neg (by decide), t1, hs, if_neg (by decide)]
  refine ⟨?_, ?_⟩
  · unfold resR
    rw [e, if_pos rfl, t1, e_sx h]
  · unfold resV
    rw [e, if_pos rfl, t1, e_sx h]; rfl
theorem e_und {K : Nat} {V : q_CV} (h : q_iv K V) : ¬ undR (e_d V) < 0 ∧ couR (undV (e_d V)) 12 = 9 := by
  have hc := e_ivc h
  have hd := e_ivd h
  have hl : 0 < v_hl (e_d V) := by
    show 0 < (if v_hl (e_c V) < 6 then v_hl (e_c V) + 1 else 6)
    split <;> omega
  have hl6 := hd.2.2.2.1
  have e : undE (e_d V) = 0 := by
    unfold undE
    rw [if_neg (by omega)]
  have hp : v_prv (e_d V) = v_nxt (e_c V) := by
    have hn := hc.2.2.2.2
    show (if (if v_nxt (e_c V) = 5 then 0 else v_nxt (e_c V) + 1) = 0 then 5 else (if v_nxt (e_c V) = 5 then 0 else v_nxt (e_c V) + 1) - 1) = v_nxt (e_c V)
    by_cases c : v_nxt (e_c V) = 5
    · rw [if_pos c, if_pos rfl]; exact c.symm
    · rw [if_neg c, if_neg (by omega)]; omega
  refine ⟨?_, ?_⟩
  · unfold undR
    rw [e, if_pos rfl]
    exact nI_pos (by omega)
  · rw [w_c12]
    unfold undV
    rw [e, if_pos rfl]
    show s_set (v_sx (e_d V) (v_prv (e_d V) + 1)) 3 = 9
    rw [hp]
    show s_set (va_up (v_sx (e_c V)) (v_nxt (e_c V) + 1) (v_now (e_c V)) (v_nxt (e_c V) + 1)) 3 = 9
    rw [va_up_e]
    show upd (upd (s_set (v_now V)) 3 9) 2 2 3 = 9
    rw [up_ne (by decide), up_eq]
theorem e_unn {K : Nat} {V : q_CV} (h : q_iv K V) : s_n (v_now (undV (e_d V))) ≤ 10 := by
  have hn := ok_n h.1
  unfold undV
  split
  · have hp : v_prv (e_d V) = v_nxt (e_c V) := by
      have hn := (e_ivc h).2.2.2.2
      show (if (if v_nxt (e_c V) = 5 then 0 else v_nxt (e_c V) + 1) = 0 then 5 else (if v_nxt (e_c V) = 5 then 0 else v_nxt (e_c V) + 1) - 1) = v_nxt (e_c V)
      by_cases c : v_nxt (e_c V) = 5
      · rw [if_pos c, if_pos rfl]; exact c.symm
      · rw [if_neg c, if_neg (by omega)]; omega
    show s_n (v_sx (e_d V) (v_prv (e_d V) + 1)) ≤ 10
    rw [hp]
    show s_n (va_up (v_sx (e_c V)) (v_nxt (e_c V) + 1) (v_now (e_c V)) (v_nxt (e_c V) + 1)) ≤ 10
    rw [va_up_e]
    exact hn
  · exact hn
