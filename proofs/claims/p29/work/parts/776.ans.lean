/-! what each act answers -/
def actT (V : q_CV) (z : Nat) : Nat := z / 16 % s_n (v_now V)
def actO (V : q_CV) (z : Nat) : Nat := z / 256 % s_n (v_now V)
def actR (z : Nat) : Nat := z / 4096 % 8
def actM (V : q_CV) (z : Nat) : Int32 := if nI (z / 32768 % 2) = 0 ∧ ¬ w_tr (v_now V) (actT V z) (actR z) < 80 ∧ ¬ (111 : Int32) ≤ w_tr (v_now V) (actT V z) (actR z) then w_tr (v_now V) (actT V z) (actR z) - 100 else nI (z / 65536 % 31) - 20
def actW (z : Nat) : Nat := if z / 16 % 4 = 0 then 1 + z / 256 % 100 else if z / 16 % 4 = 1 then z / 256 % 51 else if z / 16 % 4 = 2 then z / 256 % 3 else z / 256 % 10
def act10 (V : q_CV) (z : Nat) : q_CV := if 0 < z / 262144 % 16 then setV V (nI (z / 16 % 4)) (nI (actW z)) else if 0 ≤ s_tru (v_now (setV V (nI (z / 16 % 4)) (nI (actW z)))) then setV V (nI (z / 16 % 4)) (nI (actW z)) else truV (setV V (nI (z / 16 % 4)) (nI (actW z))) (nI (z / 256 % 10000))
def actV (V : q_CV) (z : Nat) : q_CV :=
  if z % 11 = 0 then teaV V else if z % 11 ≤ 3 then hanV (telV V (z / 32) false 10) (nI (actT V z)) (nI (actR z)) else if z % 11 = 4 then jokV V (nI (actT V z)) (nI (actR z))
  else if z % 11 = 5 then (if 0 < z / 256 % 3 then V else keyV (telV V (z / 128) true 10) (nI (actR z))) else if z % 11 ≤ 7 then marV V (nI (actO V z)) (nI (actT V z)) (nI (actR z)) (actM V z)
  else if z % 11 = 8 then lokV V (nI (actT V z)) (nI (actR z)) else if z % 11 = 9 then gueV V (nI (actT V z)) (nI (z / 256 % 10000)) else act10 V z
theorem act_0 {V : q_CV} {z : Nat} (h : z % 11 = 0) : actV V z = teaV V := if_pos h
theorem act_1 {V : q_CV} {z : Nat} (h0 : ¬ z % 11 = 0) (h : z % 11 ≤ 3) : actV V z = hanV (telV V (z / 32) false 10) (nI (actT V z)) (nI (actR z)) := by unfold actV; rw [if_neg h0, if_pos h]
theorem act_4 {V : q_CV} {z : Nat} (h : z % 11 = 4) : actV V z = jokV V (nI (actT V z)) (nI (actR z)) := by unfold actV; rw [if_neg (by omega), if_neg (by omega), if_pos h]
theorem act_5a {V : q_CV} {z : Nat} (h : z % 11 = 5) (h2 : 0 < z / 256 % 3) : actV V z = V := by unfold actV; rw [if_neg (by omega), if_neg (by omega), if_neg (by omega), if_pos h, if_pos h2]
theorem act_5b {V : q_CV} {z : Nat} (h : z % 11 = 5) (h2 : ¬ 0 < z / 256 % 3) : actV V z = keyV (telV V (z / 128) true 10) (nI (actR z)) := by unfold actV; rw [if_neg (by omega), if_neg (by omega), if_neg (by omega), if_pos h, if_neg h2]
theorem act_6 {V : q_CV} {z : Nat} (h : z % 11 = 6 ∨ z % 11 = 7) : actV V z = marV V (nI (actO V z)) (nI (actT V z)) (nI (actR z)) (actM V z) := by unfold actV; rw [if_neg (by omega), if_neg (by omega), if_neg (by omega), if_neg (by omega), if_pos (by omega)]
theorem act_8 {V : q_CV} {z : Nat} (h : z % 11 = 8) : actV V z = lokV V (nI (actT V z)) (nI (actR z)) := by unfold actV; rw [if_neg (by omega), if_neg (by omega), if_neg (by omega), if_neg (by omega), if_neg (by omega), if_pos h]
theorem act_9 {V : q_CV} {z : Nat} (h : z % 11 = 9) : actV V z = gueV V (nI (actT V z)) (nI (z / 256 % 10000)) := by unfold actV; rw [if_neg (by omega), if_neg (by omega), if_neg (by omega), if_neg (by omega), if_neg (by omega), if_neg (by omega), if_pos h]
theorem act_10 {V : q_CV} {z : Nat} (h : z % 11 = 10) : actV V z = act10 V z := by unfold actV; rw [if_neg (by omega), if_neg (by omega), if_neg (by omega), if_neg (by omega), if_neg (by omega), if_neg (by omega), if_neg (by omega)]
theorem act_10a {V : q_CV} {z : Nat} (h : z % 11 = 10) (h2 : 0 < z / 262144 % 16) : actV V z = setV V (nI (z / 16 % 4)) (nI (actW z)) := by rw [act_10 h]; unfold act10; rw [if_pos h2]
theorem act_10b {V : q_CV} {z : Nat} (h : z % 11 = 10) (h2 : ¬ 0 < z / 262144 % 16) (h3 : 0 ≤ s_tru (v_now (setV V (nI (z / 16 % 4)) (nI (actW z))))) : actV V z = setV V (nI (z / 16 % 4)) (nI (actW z)) := by rw [act_10 h]; unfold act10; rw [if_neg h2, if_pos h3]
theorem act_10c {V : q_CV} {z : Nat} (h : z % 11 = 10) (h2 : ¬ 0 < z / 262144 % 16) (h3 : ¬ 0 ≤ s_tru (v_now (setV V (nI (z / 16 % 4)) (nI (actW z))))) : actV V z = truV (setV V (nI (z / 16 % 4)) (nI (actW z))) (nI (z / 256 % 10000)) := by rw [act_10 h]; unfold act10; rw [if_neg h2, if_neg h3]
theorem iv_act10 {K : Nat} {V : q_CV} (h : q_iv K V) (z : Nat) : q_iv (K + 2) (act10 V z) := by
  unfold act10
  split
  · exact iv_up (iv_set h _ _)
  · split
    · exact iv_up (iv_set h _ _)
    · exact iv_tru (iv_set h _ _) _
theorem iv_act {K : Nat} {V : q_CV} (h : q_iv K V) (z : Nat) : q_iv (K + 2) (actV V z) := by
  unfold actV
  split
  · exact iv_up (iv_tea h)
  · split
    · exact iv_up (iv_han (tel_iv h _ _) _ _)
    · split
      · exact iv_up (iv_jok h _ _)
      · split
        · split
          · exact iv_up (iv_up h)
          · exact iv_up (iv_key (tel_iv h _ _) _)
        · split
          · exact iv_up (iv_mar h _ _ _ _)
          · split
            · exact iv_up (iv_lok h _ _)
            · split
              · exact iv_up (iv_gue h _ _)
              · exact iv_act10 h z
/-! team -/
theorem tea_4 {V : q_CV} (h : s_n (v_now V) = 10) : teaR V = -4 := by
  have e : teaE V = -4 := by unfold teaE; rw [if_pos (by omega)]
  unfold teaR
  rw [e, if_neg (by decide)]
theorem tea_5 {V : q_CV} (hn : s_n (v_now V) ≤ 10) (h : ¬ s_n (v_now V) = 10) (h2 : ¬ q_or (isOp (v_now V)) 8 = 255) : teaR V = -5 := by
  have e : teaE V = -5 := by unfold teaE; rw [if_neg (by omega), if_pos h2]
  unfold teaR
  rw [e, if_neg (by decide)]
theorem tea_e {V : q_CV} (hn : s_n (v_now V) ≤ 10) (h : ¬ s_n (v_now V) = 10) (h2 : q_or (isOp (v_now V)) 8 = 255) : teaE V = 0 := by
  unfold teaE
  rw [if_neg (by omega), if_neg (fun q => q h2)]
theorem tea_0 {V : q_CV} (hn : s_n (v_now V) ≤ 10) (h : ¬ s_n (v_now V) = 10) (h2 : q_or (isOp (v_now V)) 8 = 255) : teaR V = nI (s_n (v_now V)) ∧ oftR (teaV V) (teaR V) 8 = s_set (v_now V) 0 ∧ couR (teaV V) 9 = s_set (v_now V) 0 := by
  have e := tea_e hn h h2
  have eR : teaR V = nI (s_n (v_now V)) := if_pos e
  have eV : teaV V = w_now (v_rec V) (teaS (v_now V)) := if_pos e
  refine ⟨eR, ?_, ?_⟩
  · rw [eR, eV, w_o8 (V := w_now (v_rec V) (teaS (v_now V))) (t := s_n (v_now V)) (show s_n (v_now V) + 1 ≤ 10 by omega) (show s_n (v_now V) < s_n (v_now V) + 1 by omega)]
    exact up_eq
  · rw [eV, w_c9]; rfl
theorem tea_c {V : q_CV} : couR (teaV V) 4 = q_or (isOp (v_now V)) 8 := by
  rw [w_c4]
  unfold teaV
  split <;> rfl
/-! hand -/
theorem tel_now (V : q_CV) (z : Nat) (key : Bool) : v_now (telV V z key 10) = v_now V := (telP V z key 10 (Nat.le_refl 10)).2.2.1
theorem hE_5 {V : q_CV} {t r : Nat} (hn : s_n (v_now V) ≤ 10) (ht : t < s_n (v_now V)) (hr : r < 8) (hp : tshP (v_pc V) (v_pl V) = true) (h : isOp (v_now V) r = false ∨ hasS (v_now V) t r = true) : hanE V (nI t) (nI r) = -5 := by
  have ct : tN (nI t) = t := tN_n (by omega)
  have cr : tN (nI r) = r := tN_n (by omega)
  unfold hanE
  rw [w_isT hn ht, isRd_t hr, hp, ct, cr, if_neg (by decide), if_neg (by decide), if_neg (by decide)]
  by_cases c : isOp (v_now V) r = false
  · rw [if_pos c]
  · rw [if_neg c, if_pos (h.resolve_left c)]
theorem hE_0 {V : q_CV} {t r : Nat} (hn : s_n (v_now V) ≤ 10) (ht : t < s_n (v_now V)) (hr : r < 8) (hp : tshP (v_pc V) (v_pl V) = true) (h1 : isOp (v_now V) r = true) (h2 : hasS (v_now V) t r = false) : hanE V (nI t) (nI r) = 0 := by
  have ct : tN (nI t) = t := tN_n (by omega)
  have cr : tN (nI r) = r := tN_n (by omega)
  unfold hanE
  rw [w_isT hn ht, isRd_t hr, hp, ct, cr, h1, h2, if_neg (by decide), if_neg (by decide), if_neg (by decide), if_neg (by decide), if_neg (by decide)]
theorem han_5 {V : q_CV} {z t r : Nat} (hn : s_n (v_now V) ≤ 10) (ht : t < s_n (v_now V)) (hr : r < 8) (h : isOp (v_now V) r = false ∨ hasS (v_now V) t r = true) : hanR (telV V z false 10) (nI t) (nI r) = -5 := by
  have e := tel_now V z false
  unfold hanR
  rw [hE_5 (V := telV V z false 10) (by rw [e]; exact hn) (by rw [e]; exact ht) hr (tel_tsh V z false) (by rw [e]; exact h), if_neg (by decide)]
theorem han_0 {V : q_CV} {z t r : Nat} (hn : s_n (v_now V) ≤ 10) (ht : t < s_n (v_now V)) (hr : r < 8) (h1 : isOp (v_now V) r = true) (h2 : hasS (v_now V) t r = false) : hanR (telV V z false 10) (nI t) (nI r) = sheR (hanV (telV V z false 10) (nI t) (nI r)) (nI t) (nI r) 4 ∧ couR (hanV (telV V z false 10) (nI t) (nI r)) 13 = 0 := by
  have e := tel_now V z false
  have E := hE_0 (V := telV V z false 10) (by rw [e]; exact hn) (by rw [e]; exact ht) hr (tel_tsh V z false) (by rw [e]; exact h1) (by rw [e]; exact h2)
  have ct : tN (nI t) = t := tN_n (by omega)
  have cr : tN (nI r) = r := tN_n (by omega)
  have eV : hanV (telV V z false 10) (nI t) (nI r) = w_pl (w_now (v_rec (telV V z false 10)) (hanS (v_now (telV V z false 10)) t r (sigs (v_pc (telV V z false 10)) 10))) 0 := by
    unfold hanV
    rw [E, if_pos rfl, ct, cr]
  have eR : hanR (telV V z false 10) (nI t) (nI r) = nI (ansN (hanS (v_now (telV V z false 10)) t r (sigs (v_pc (telV V z false 10)) 10)) t r) := by
    unfold hanR
    rw [E, if_pos rfl, ct, cr]
  rw [eV, eR]
  refine ⟨?_, ?_⟩
  · refine (w_s4 (V := w_pl (w_now (v_rec (telV V z false 10)) (hanS (v_now (telV V z false 10)) t r (sigs (v_pc (telV V z false 10)) 10))) 0) ?_ ?_ hr (han_e (sg_ne _))).symm
    · show s_n (v_now (telV V z false 10)) ≤ 10
      rw [e]; exact hn
    · show t < s_n (v_now (telV V z false 10))
      rw [e]; exact ht
  · rw [w_c13]; rfl
/-! joker -/
def jkF (S : q_St) (t r : Nat) : Bool := decide (s_jok S t < 0) && isOp S r && !hasS S t r
theorem jk_lt {S : q_St} {K : Nat} (ho : q_ok K S) {t : Nat} (ht : t < 10) : s_jok S t < 0 ↔ s_jok S t = -6 := by
  rcases ok_jok ho ht with e | ⟨v, hv, e⟩
  · rw [e]; exact ⟨fun _ => rfl, fun _ => by decide⟩
  · rw [e]; exact ⟨fun q => absurd q (nI_pos (by omega)), fun q => absurd q (nI_6 (by omega))⟩
theorem jok_5 {V : q_CV} {K t r : Nat} (ho : q_ok K (v_now V)) (ht : t < s_n (v_now V)) (hr : r < 8) (h : jkF (v_now V) t r = false) : jokR V (nI t) (nI r) = -5 := by
  have hn := ok_n ho
  have ct : tN (nI t) = t := tN_n (by omega)
  have cr : tN (nI r) = r := tN_n (by omega)
  have e : jokE V (nI t) (nI r) = -5 := by
    unfold jokE
    rw [w_isT hn ht, isRd_t hr, ct, cr, if_neg (by decide), if_neg (by decide)]
    by_cases c : s_jok (v_now V) t = -6
    · rw [if_neg (fun q => q c)]
      by_cases d : isOp (v_now V) r = false
      · rw [if_pos d]
      · rw [if_neg d]
        unfold jkF at h
        rw [decide_eq_true ((jk_lt ho (by omega)).mpr c), bool_t d] at h
        rw [if_pos (by simpa using h)]
    · rw [if_pos c]
  unfold jokR
  rw [e, if_neg (by decide)]
theorem jok_0 {V : q_CV} {K t r : Nat} (ho : q_ok K (v_now V)) (ht : t < s_n (v_now V)) (hr : r < 8) (h : jkF (v_now V) t r = true) : jokR V (nI t) (nI r) = bitI (ofrR (jokV V (nI t) (nI r)) (nI r) 2) ∧ oftR (jokV V (nI t) (nI r)) (nI t) 3 = nI r := by
  have hn := ok_n ho
  have ct : tN (nI t) = t := tN_n (by omega)
  have cr : tN (nI r) = r := tN_n (by omega)
  unfold jkF at h
  simp only [Bool.and_eq_true, decide_eq_true_eq, Bool.not_eq_true'] at h
  obtain ⟨⟨h1, h2⟩, h3⟩ := h
  have e : jokE V (nI t) (nI r) = 0 := by
    unfold jokE
    rw [w_isT hn ht, isRd_t hr, ct, cr, if_neg (by decide), if_neg (by decide), if_neg (fun q => q ((jk_lt ho (by omega)).mp h1)), h2, h3, if_neg (by decide), if_neg (by decide)]
  have eV : jokV V (nI t) (nI r) = w_now (v_rec V) (jokS (v_now V) t r) := by
    unfold jokV
    rw [e, if_pos rfl, ct, cr]
  have eR : jokR V (nI t) (nI r) = nI (q_cnt (fun u => decide (s_jok (jokS (v_now V) t r) u = nI r)) (s_n (v_now V))) := by
    unfold jokR
    rw [e, if_pos rfl, ct, cr]
  rw [eV, eR]
  refine ⟨?_, ?_⟩
  · rw [w_r2 hr]
    exact (q_bitN (fun u => decide (s_jok (jokS (v_now V) t r) u = nI r)) (s_n (v_now V)) hn).symm
  · rw [w_o3 (V := w_now (v_rec V) (jokS (v_now V) t r)) hn ht]
    exact up_eq
/-! key -/
theorem key_5 {V : q_CV} {z r : Nat} (hr : r < 8) (h : isOp (v_now V) r = false) : keyR (telV V z true 10) (nI r) = -5 := by
  have e := tel_now V z true
  have cr : tN (nI r) = r := tN_n (by omega)
  have E : keyE (telV V z true 10) (nI r) = -5 := by
    unfold keyE
    rw [isRd_t hr, tel_tky, cr, e, if_neg (by decide), if_neg (by decide), if_pos h]
  unfold keyR
  rw [E, if_neg (by decide)]
theorem key_0 {V : q_CV} {z r : Nat} (hn : s_n (v_now V) ≤ 10) (hr : r < 8) (h : isOp (v_now V) r = true) : keyR (telV V z true 10) (nI r) = bitI (ofrR (telV V z true 10) (nI r) 1) := by
  have e := tel_now V z true
  have cr : tN (nI r) = r := tN_n (by omega)
  have E : keyE (telV V z true 10) (nI r) = 0 := by
    unfold keyE
    rw [isRd_t hr, tel_tky, cr, e, h, if_neg (by decide), if_neg (by decide), if_neg (by decide)]
  unfold keyR
  rw [E, if_pos rfl, cr, w_r1 hr]
  exact (q_bitN (fun t => hasS (v_now (telV V z true 10)) t r) _ (by rw [e]; exact hn)).symm
/-! mark -/
theorem actM_rg (V : q_CV) (z : Nat) : ¬ actM V z < -20 ∧ actM V z ≤ 10 := by
  have e20 : (-20 : Int32).toInt = -20 := by decide
  have e10 : (10 : Int32).toInt = 10 := by decide
  have e80 : (80 : Int32).toInt = 80 := by decide
  have e111 : (111 : Int32).toInt = 111 := by decide
  unfold actM
  split
  · next c =>
    have h1 := Int32.le_iff_toInt_le.mp (Int32.not_lt.mp c.2.1)
    have h2 : ¬ (111 : Int32).toInt ≤ (w_tr (v_now V) (actT V z) (actR z)).toInt := fun q => c.2.2 (Int32.le_iff_toInt_le.mpr q)
    have h3 := rg_sub (x := w_tr (v_now V) (actT V z) (actR z)) (y := 100) (a := 80) (b := 110) (c := 100) (d := 100) ⟨by omega, by omega⟩ ⟨by decide, by decide⟩ (by decide) (by decide)
    have e100 : (100 : Int32).toInt = 100 := by decide
    exact ⟨fun q => by have := Int32.lt_iff_toInt_lt.mp q; omega, Int32.le_iff_toInt_le.mpr (by omega)⟩
  · have h3 := pk_sub_toInt (a := z / 65536 % 31) (b := 20) (by omega) (by decide)
    have h4 : (nI (z / 65536 % 31) - 20).toInt = ((z / 65536 % 31 : Nat) : Int) - ((20 : Nat) : Int) := h3
    exact ⟨fun q => by have := Int32.lt_iff_toInt_lt.mp q; omega, Int32.le_iff_toInt_le.mpr (by omega)⟩
theorem mar_2 {V : q_CV} {o t r : Nat} {k : Int32} (hn : s_n (v_now V) ≤ 10) (hO : o < s_n (v_now V)) (ht : t < s_n (v_now V)) (hr : r < 8) (h : nI o = nI t) : marR V (nI o) (nI t) (nI r) k = -2 := by
  have e : marE V (nI o) (nI t) (nI r) k = -2 := by
    unfold marE
    rw [w_isT hn hO, w_isT hn ht, isRd_t hr, if_neg (by decide), if_neg (by decide), if_neg (by decide), if_pos h]
  unfold marR
  rw [e, if_neg (by decide)]
theorem mar_5 {V : q_CV} {o t r : Nat} {k : Int32} (hn : s_n (v_now V) ≤ 10) (hO : o < s_n (v_now V)) (ht : t < s_n (v_now V)) (hr : r < 8) (h : ¬ nI o = nI t) (hk : ¬ k < -20 ∧ k ≤ 10) (h2 : isOp (v_now V) r = true ∨ hasS (v_now V) t r = false ∨ tldS (v_now V) t r = true) : marR V (nI o) (nI t) (nI r) k = -5 := by
  have ct : tN (nI t) = t := tN_n (by omega)
  have cr : tN (nI r) = r := tN_n (by omega)
  have e : marE V (nI o) (nI t) (nI r) k = -5 := by
    unfold marE
    rw [w_isT hn hO, w_isT hn ht, isRd_t hr, ct, cr, if_neg (by decide), if_neg (by decide), if_neg (by decide), if_neg h, if_neg hk.1, if_neg (fun q => q hk.2)]
    by_cases c : isOp (v_now V) r = true
    · rw [if_pos c]
    · rw [if_neg c]
      by_cases d : hasS (v_now V) t r = false
      · rw [if_pos d]
      · rw [if_neg d, if_pos ((h2.resolve_left c).resolve_left d)]
  unfold marR
  rw [e, if_neg (by decide)]
theorem mar_0 {V : q_CV} {o t r : Nat} {k : Int32} (hn : s_n (v_now V) ≤ 10) (hO : o < s_n (v_now V)) (ht : t < s_n (v_now V)) (hr : r < 8) (h : ¬ nI o = nI t) (hk : ¬ k < -20 ∧ k ≤ 10) (h1 : isOp (v_now V) r = false) (h2 : hasS (v_now V) t r = true) (h3 : tldS (v_now V) t r = false) : marR V (nI o) (nI t) (nI r) k = 1 ∧ sheR (marV V (nI o) (nI t) (nI r) k) (nI t) (nI r) 0 = k + 100 ∧ sheR (marV V (nI o) (nI t) (nI r) k) (nI t) (nI r) 1 = nI o := by
  have ct : tN (nI t) = t := tN_n (by omega)
  have cr : tN (nI r) = r := tN_n (by omega)
  have co : tN (nI o) = o := tN_n (by omega)
  have e : marE V (nI o) (nI t) (nI r) k = 0 := by
    unfold marE
    rw [w_isT hn hO, w_isT hn ht, isRd_t hr, ct, cr, if_neg (by decide), if_neg (by decide), if_neg (by decide), if_neg h, if_neg hk.1, if_neg (fun q => q hk.2), h1, h2, h3, if_neg (by decide), if_neg (by decide), if_neg (by decide)]
  have eV : marV V (nI o) (nI t) (nI r) k = w_now (v_rec V) (marS (v_now V) o t r k) := by
    unfold marV
    rw [e, if_pos rfl, ct, cr, co]
  have hT : tldS (marS (v_now V) o t r k) t r = true := by
    refine tld_iff.mpr fun q => ?_
    have q2 : upd (s_mkr (v_now V)) (t * 8 + r) (nI o) (t * 8 + r) = -6 := q
    rw [up_eq] at q2
    exact nI_6 (by omega) q2
  refine ⟨if_pos e, ?_, ?_⟩
  · rw [eV]
    refine (w_s0 (V := w_now (v_rec V) (marS (v_now V) o t r k)) hn ht hr h2).trans ?_
    show (if tldS (marS (v_now V) o t r k) t r = true then upd (s_mar (v_now V)) (t * 8 + r) k (t * 8 + r) + 100 else -6) = k + 100
    rw [if_pos hT, up_eq]
  · rw [eV, w_s1 (V := w_now (v_rec V) (marS (v_now V) o t r k)) hn ht hr h2]
    exact up_eq
/-! look -/
theorem lok_5 {V : q_CV} {t r : Nat} (hn : s_n (v_now V) ≤ 10) (ht : t < s_n (v_now V)) (hr : r < 8) (h : tldS (v_now V) t r = false ∨ lokS (v_now V) t r = true) : lokR V (nI t) (nI r) = -5 := by
  have ct : tN (nI t) = t := tN_n (by omega)
  have cr : tN (nI r) = r := tN_n (by omega)
  have e : lokE V (nI t) (nI r) = -5 := by
    unfold lokE
    rw [w_isT hn ht, isRd_t hr, ct, cr, if_neg (by decide), if_neg (by decide)]
    by_cases c : tldS (v_now V) t r = false
    · rw [if_pos c]
    · rw [if_neg c, if_pos (h.resolve_left c)]
  unfold lokR
  rw [e, if_neg (by decide)]
theorem lok_0 {V : q_CV} {K t r : Nat} (ho : q_ok K (v_now V)) (ht : t < s_n (v_now V)) (hr : r < 8) (h1 : tldS (v_now V) t r = true) (h2 : lokS (v_now V) t r = false) : lokR V (nI t) (nI r) = bI (wroS (v_now V) t r) ∧ sheR (lokV V (nI t) (nI r)) (nI t) (nI r) 0 = w_tr (v_now V) t r := by
  have hn := ok_n ho
  have ct : tN (nI t) = t := tN_n (by omega)
  have cr : tN (nI r) = r := tN_n (by omega)
  have e : lokE V (nI t) (nI r) = 0 := by
    unfold lokE
    rw [w_isT hn ht, isRd_t hr, ct, cr, h1, h2, if_neg (by decide), if_neg (by decide), if_neg (by decide), if_neg (by decide)]
  have eV : lokV V (nI t) (nI r) = w_now (v_rec V) (lokT (v_now V) t r) := by
    unfold lokV
    rw [e, if_pos rfl, ct, cr]
  have eR : lokR V (nI t) (nI r) = bI (wroS (v_now V) t r) := by
    unfold lokR
    rw [e, if_pos rfl, ct, cr]
  obtain ⟨-, -, g1, g2, g3, g4⟩ := ok_lokT ho ht hr h1
  refine ⟨eR, ?_⟩
  have hH : hasS (lokT (v_now V) t r) t r = true := by
    have := ok_th ho (show t < 10 by omega) hr h1
    unfold hasS at this ⊢
    rw [g3]; exact this
  have hT : tldS (lokT (v_now V) t r) t r = true := by
    unfold tldS at h1 ⊢
    rw [g2]; exact h1
  rw [eV]
  refine (w_s0 (V := w_now (v_rec V) (lokT (v_now V) t r)) (show s_n (lokT (v_now V) t r) ≤ 10 by rw [g4]; exact hn) (show t < s_n (lokT (v_now V) t r) by rw [g4]; exact ht) hr hH).trans ?_
  show (if tldS (lokT (v_now V) t r) t r = true then s_mar (lokT (v_now V) t r) (t * 8 + r) + 100 else -6) = w_tr (v_now V) t r
  rw [if_pos hT, (w_mt ho (by omega) hr h1).2, g1, up_eq]
/-! guess -/
theorem gue_5 {V : q_CV} {t v : Nat} (hn : s_n (v_now V) ≤ 10) (ht : t < s_n (v_now V)) (hv : v < 10000) (h : ¬ s_tru (v_now V) = -6) : gueR V (nI t) (nI v) = -5 := by
  have e : gueE V (nI t) (nI v) = -5 := by
    unfold gueE
    rw [w_isT hn ht, if_neg (by decide), if_neg (nI_pos (by omega)), if_neg (fun q => q (nI_le (b := 9999) (by omega) (by decide))), if_pos h]
  unfold gueR
  rw [e, if_neg (by decide)]
theorem gue_0 {V : q_CV} {t v : Nat} (hn : s_n (v_now V) ≤ 10) (ht : t < s_n (v_now V)) (hv : v < 10000) (h : s_tru (v_now V) = -6) : gueR V (nI t) (nI v) = s_gue (v_now V) t ∧ oftR (gueV V (nI t) (nI v)) (nI t) 5 = nI v := by
  have ct : tN (nI t) = t := tN_n (by omega)
  have e : gueE V (nI t) (nI v) = 0 := by
    unfold gueE
    rw [w_isT hn ht, if_neg (by decide), if_neg (nI_pos (by omega)), if_neg (fun q => q (nI_le (b := 9999) (by omega) (by decide))), if_neg (fun q => q h)]
  have eV : gueV V (nI t) (nI v) = w_now (v_rec V) (u_gue (v_now V) (upd (s_gue (v_now V)) t (nI v))) := by
    unfold gueV
    rw [e, if_pos rfl, ct]
  refine ⟨?_, ?_⟩
  · unfold gueR
    rw [e, if_pos rfl, ct]
  · rw [eV, w_o5 (V := w_now (v_rec V) (u_gue (v_now V) (upd (s_gue (v_now V)) t (nI v)))) hn ht]
    exact up_eq
/-! set and truth -/
theorem set_E0 {v : Nat} (h1 : 1 ≤ v) (h2 : v ≤ 100) : setE (nI 0) (nI v) = 0 := by
  have l0 : leaS (tN (nI 0)) = nI 1 := by decide
  have g0 : graS (tN (nI 0)) = nI 100 := by decide
  unfold setE
  rw [l0, g0, if_neg (by decide), if_neg (by decide), if_neg (nI_nlt h1 (by omega)), if_neg (fun q => q (nI_le h2 (by decide)))]
theorem set_E1 {v : Nat} (h2 : v ≤ 50) : setE (nI 1) (nI v) = 0 := by
  have l0 : leaS (tN (nI 1)) = nI 0 := by decide
  have g0 : graS (tN (nI 1)) = nI 50 := by decide
  unfold setE
  rw [l0, g0, if_neg (by decide), if_neg (by decide), if_neg (nI_nlt (Nat.zero_le v) (by omega)), if_neg (fun q => q (nI_le h2 (by decide)))]
theorem set_E2 {v : Nat} (h2 : v ≤ 2) : setE (nI 2) (nI v) = 0 := by
  have l0 : leaS (tN (nI 2)) = nI 0 := by decide
  have g0 : graS (tN (nI 2)) = nI 2 := by decide
  unfold setE
  rw [l0, g0, if_neg (by decide), if_neg (by decide), if_neg (nI_nlt (Nat.zero_le v) (by omega)), if_neg (fun q => q (nI_le h2 (by decide)))]
theorem set_E3 {v : Nat} (h2 : v ≤ 9) : setE (nI 3) (nI v) = 0 := by
  have l0 : leaS (tN (nI 3)) = nI 0 := by decide
  have g0 : graS (tN (nI 3)) = nI 9 := by decide
  unfold setE
  rw [l0, g0, if_neg (by decide), if_neg (by decide), if_neg (nI_nlt (Nat.zero_le v) (by omega)), if_neg (fun q => q (nI_le h2 (by decide)))]
theorem actW_b (z : Nat) : (z / 16 % 4 = 0 → 1 ≤ actW z ∧ actW z ≤ 100) ∧ (z / 16 % 4 = 1 → actW z ≤ 50) ∧ (z / 16 % 4 = 2 → actW z ≤ 2) ∧ (z / 16 % 4 = 3 → actW z ≤ 9) := by
  unfold actW
  refine ⟨fun e => ?_, fun e => ?_, fun e => ?_, fun e => ?_⟩
  · rw [if_pos e]; omega
  · rw [if_neg (by omega), if_pos e]; omega
  · rw [if_neg (by omega), if_neg (by omega), if_pos e]; omega
  · rw [if_neg (by omega), if_neg (by omega), if_neg (by omega)]; omega
theorem set_e {z : Nat} : setE (nI (z / 16 % 4)) (nI (actW z)) = 0 := by
  obtain ⟨b0, b1, b2, b3⟩ := actW_b z
  rcases (show z / 16 % 4 = 0 ∨ z / 16 % 4 = 1 ∨ z / 16 % 4 = 2 ∨ z / 16 % 4 = 3 by omega) with e | e | e | e
  · have h := b0 e
    rw [e]; exact set_E0 h.1 h.2
  · have h := b1 e
    rw [e]; exact set_E1 h
  · have h := b2 e
    rw [e]; exact set_E2 h
  · have h := b3 e
    rw [e]; exact set_E3 h
theorem set_c {V : q_CV} {k : Nat} (h : k < 4) : couR V (9 + nI k) = s_set (v_now V) k := by
  rcases (show k = 0 ∨ k = 1 ∨ k = 2 ∨ k = 3 by omega) with rfl | rfl | rfl | rfl
  · rw [show (9 : Int32) + nI 0 = 9 from by decide]; exact w_c9
  · rw [show (9 : Int32) + nI 1 = 10 from by decide]; exact w_c10
  · rw [show (9 : Int32) + nI 2 = 11 from by decide]; exact w_c11
  · rw [show (9 : Int32) + nI 3 = 12 from by decide]; exact w_c12
theorem set_R {V : q_CV} {z : Nat} : setR V (nI (z / 16 % 4)) (nI (actW z)) = s_set (v_now V) (z / 16 % 4) := by
  unfold setR
  rw [set_e, if_pos rfl, tN_n (by omega)]
theorem set_V {V : q_CV} {z : Nat} : setV V (nI (z / 16 % 4)) (nI (actW z)) = w_now (v_rec V) (u_set (v_now V) (upd (s_set (v_now V)) (z / 16 % 4) (nI (actW z)))) := by
  unfold setV
  rw [set_e, if_pos rfl, tN_n (by omega)]
theorem set_n {V : q_CV} {z : Nat} : couR (setV V (nI (z / 16 % 4)) (nI (actW z))) (9 + nI (z / 16 % 4)) = nI (actW z) := by
  rw [set_c (by omega), set_V]
  exact up_eq
theorem tru_0 {V : q_CV} {K v : Nat} (ho : q_ok K (v_now V)) (hv : v < 10000) (h : ¬ 0 ≤ s_tru (v_now V)) : ¬ truR V (nI v) < 0 := by
  have hn := ok_n ho
  have h2 := (w_tru ho).1 (Int32.not_le.mp h)
  have e : truE V (nI v) = 0 := by
    unfold truE
    rw [if_neg (nI_pos (by omega)), if_neg (fun q => q (nI_le (b := 9999) (by omega) (by decide))), if_neg (fun q => q h2)]
  have hl := q_cnt_le (fun t => !decide (s_gue (v_now V) t = -6)) (s_n (v_now V))
  unfold truR
  rw [e, if_pos rfl]
  exact nI_pos (by unfold gueN; omega)
