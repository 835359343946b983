/-! the reference's calls that write -/
theorem m_recs (M : q_MV) : m_s (m_rec M) = m_s M := by
  by_cases h : m_st M = 6
  · rw [show m_rec M = _ from if_pos h]; rfl
  · rw [show m_rec M = _ from if_neg h]; rfl
theorem m_recl (M : q_MV) : m_len (m_rec M) = m_len M := by
  by_cases h : m_st M = 6
  · rw [show m_rec M = _ from if_pos h]; rfl
  · rw [show m_rec M = _ from if_neg h]; rfl
theorem m_recp (M : q_MV) : m_pad (m_rec M) = m_pad M := by
  by_cases h : m_st M = 6
  · rw [show m_rec M = _ from if_pos h]; rfl
  · rw [show m_rec M = _ from if_neg h]; rfl
def m_set (M : q_MV) (k : Nat) (v : Int32) : q_MV := n_s (m_rec M) (upd (m_s (m_rec M)) k v)
def jokM (M : q_MV) (V : q_CV) (x y : Int32) : q_MV := if jokE V x y = 0 then n_s (m_rec M) (upd (m_s (m_rec M)) (96 + 4 * tN x + 1) (nI (tN y + 1))) else M
theorem n_ss (M : q_MV) (f g : Nat → Int32) : n_s (n_s M f) g = n_s M g := rfl
theorem inR_t {v lo hi : Int32} (h : inR v lo hi = true) : ¬ v < lo ∧ v ≤ hi := by
  simp only [inR, Bool.and_eq_true, Bool.not_eq_true', decide_eq_false_iff_not] at h
  exact ⟨h.1, Int32.not_lt.mp h.2⟩
theorem inR_f {v lo hi : Int32} (h : inR v lo hi = false) : v < lo ∨ ¬ v ≤ hi := by
  by_cases q : v < lo
  · exact Or.inl q
  · refine Or.inr fun q2 => ?_
    simp only [inR, decide_eq_false q, decide_eq_false (Int32.not_lt.mpr q2)] at h
    cases h
theorem inG_t {y : Int32} (h : inR y 0 9999 = true) : ∃ v : Nat, v ≤ 9999 ∧ y = nI v := by
  have h := inR_t h
  obtain ⟨v, hv, rfl⟩ := nI_of h.1
  exact ⟨v, (nI_leI (b := 9999) hv (by decide)).mp h.2, rfl⟩
def gueM (M : q_MV) (V : q_CV) (x y : Int32) : q_MV := if gueE V x y = 0 then n_s (m_rec M) (upd (m_s (m_rec M)) (96 + 4 * tN x + 3) (nI (tN y + 1))) else M
def marM (M : q_MV) (V : q_CV) (k x y z : Int32) : q_MV := if marE V k x y z = 0 then n_s (m_rec M) (upd (upd (upd (m_s (m_rec M)) (136 + 15 * (tN x * 8 + tN y) + 1) 1) (136 + 15 * (tN x * 8 + tN y) + 2) z) (136 + 15 * (tN x * 8 + tN y) + 3) (nI (tN k))) else M
def teaM (M : q_MV) (V : q_CV) : q_MV := if teaE V = 0 then n_s (m_rec M) (upd (upd (m_s (m_rec M)) (96 + 4 * s_n (v_now V)) (s_set (v_now V) 0)) 4 (nI (s_n (v_now V) + 1))) else M
def trhM (M : q_MV) (V : q_CV) (y : Int32) : q_MV := if truE V y = 0 then n_s (m_rec M) (upd (upd (m_s (m_rec M)) 5 1) 6 y) else M

set_option maxHeartbeats 2000000 in
set_option maxRecDepth 100000 in
theorem c_X5_joker (l : Launch) (g : q_G) (d : Nat → Nat) (M : q_MV) (hJ : q_mInj d) (V : q_CV) (K : Nat) (hc : q_cp (v_now V) (m_s M)) (ho : q_ok K (v_now V)) (hK5 : K ≤ 512) (x : Int32) (y : Int32) (h1_ : m_st M ≤ 6) : Met l yX5_joker wsX5_joker { frames := 2, cells := 0, slots := 0, locals := 47 } (va_Pc [.ref (d 0), .int x, .int y] (q_B g (q_mdW g d M))) (q_QM g (q_mAd d) (q_mdW g d (jokM M V x y)) (some (.int (jokR V x y)))) 0 0 (q_mAd d) := by
  refine q_mm (cc := cX5_joker) (maxL := 3) (ret := (some .int)) (by decide) rfl (Nat.le_of_ble_eq_true rfl) ?_
  intro p e s m args below meth c ls hx hb hml hown hts hr hlk hnm hB hag hl
  obtain ⟨hP, hK, hN⟩ := hB
  have hS : va_S (q_mAd d) s.heap s.heap [] := va_S.rf
  have hP : va_P g.1 vwCl (q_mdW g d M) s.heap := hP
  have hD : va_D (q_mAd d) (q_mdW g d M) := q_mD hJ (fun _ h => h)
  have fl_7 := hts (.fieldLink RX5 7 "PubQuizzesModel" "s" "[I") (by decide +kernel)
  have hi_X5 : ∀ w ∈ u_ws RX5 TX5 7, w ∈ wsX5_joker := by decide +kernel
  have hl : lv_has ls 3 [(0, .ref (d 0)), (1, .int x), (2, .int y)] := hl
  have hn10 := ok_n ho
  refine lv_aload_n hx hb dX5_joker_0 rfl (lv_at hl 0 rfl) ?_
  refine lv_iload_n hx hb dX5_joker_1 rfl (lv_at hl 1 rfl) ?_
  refine q_V (As := [.int x]) (rest := []) ⟨hx, hb, hml, hown, hts⟩ (c_X5_isTeam l g d M (v_now V) K hc ho hK5 x ) (cwV 1 hts gX5_joker_X5_isTeam rfl rfl rfl (by decide +kernel) ⟨Nat.le_of_ble_eq_true rfl, Nat.le_of_ble_eq_true rfl⟩) q_B_blind (va_recv hK hP (ci := 4) (q0 := 0) rfl rfl) (q_B_of hP hK hN) rfl hl.1 rfl (Nat.le_of_ble_eq_true rfl) dX5_joker_2 (Nat.zero_le _) (Nat.zero_le _) ?_
  refine lv_if_eq (tgt := 15) hx hb dX5_joker_5 (by decide) (fun c_5 => ?_) (fun c_5 => ?_)
  · skip
    have c_5 : (isTm (v_now V) x) = false := bI_eq c_5
    refine lv_iconst (v := (-1)) hx hb dX5_joker_15 (by decide) ?_
    exact q_miret hx hb hr hlk dX5_joker_16 hP hS (by simp [jokR, jokM, jokE, c_5]) (by simp [jokR, jokM, jokE, c_5])
  · skip
    have c_5 : (isTm (v_now V) x) = true := bI_ne c_5
    obtain ⟨t1, ht1, ht1x, rfl⟩ := isTm_of hn10 c_5
    have ct1 : tN (nI t1) = t1 := tN_n (by omega)
    refine lv_iload_n hx hb dX5_joker_8 rfl (lv_at hl 2 rfl) ?_
    refine q_S (As := [.int y]) (rest := []) ⟨hx, hb, hml, hown, hts⟩ (c_X5_isRound l y ) (va_cwS 1 hts gX5_joker_X5_isRound rfl rfl rfl (by decide +kernel) ⟨Nat.le_of_ble_eq_true rfl, Nat.le_of_ble_eq_true rfl⟩) q_Blind_t (fun _ _ _ => trivial) rfl hl.1 rfl (Nat.le_of_ble_eq_true rfl) dX5_joker_9 (Nat.zero_le _) (Nat.zero_le _) ?_
    refine lv_if_ne (tgt := 17) hx hb dX5_joker_12 (by decide) (fun c_12 => ?_) (fun c_12 => ?_)
    · skip
      have c_12 : (isRd y) = true := bI_ne c_12
      obtain ⟨r1, hr1, rfl⟩ := isRd_of c_12
      have cr1 : tN (nI r1) = r1 := tN_n (by omega)
      refine lv_aload_n hx hb dX5_joker_17 rfl (lv_at hl 0 rfl) ?_
      refine va_get (D := g.1) (ci := 4) (v := .ref (d 1)) (C := RX5) (T := TX5) (N := 7) hx hb hts hi_X5 hown hK hP 0 rfl rfl 0 (by decide) fl_7 (fun _ h9 => h9) rfl dX5_joker_18 ?_
      refine lv_iload_n hx hb dX5_joker_21 rfl (lv_at hl 1 rfl) ?_
      refine q_S (As := [.int (nI t1)]) (rest := [.ref (d 1)]) ⟨hx, hb, hml, hown, hts⟩ (c_X5_t l t1 ) (va_cwS 1 hts gX5_joker_X5_t rfl rfl rfl (by decide +kernel) ⟨Nat.le_of_ble_eq_true rfl, Nat.le_of_ble_eq_true rfl⟩) q_Blind_t (fun _ _ _ => trivial) rfl hl.1 rfl (Nat.le_of_ble_eq_true rfl) dX5_joker_22 (Nat.zero_le _) (Nat.zero_le _) ?_
      refine lv_iconst (v := 1) hx hb dX5_joker_25 (by decide) ?_
      refine lv_iadd hx hb dX5_joker_26 ?_
      refine q_reI (show (((nI (96 + 4 * t1)) + 1) : Int32) = nI (96 + 4 * t1 + 1) from nI_add _ _) ?_
      refine q_iald (j := (96 + 4 * t1 + 1)) hx hb hK hP 1 0 rfl rfl (by omega) (by decide) dX5_joker_27 ?_
      refine q_reI (show (m_s M (96 + 4 * t1 + 1) : Int32) = jkI (s_jok (v_now V) t1) from cp_jok hc (t := t1) (by omega)) ?_
      refine lv_if_gt (tgt := 55) hx hb dX5_joker_28 (by decide) (fun c_28 => ?_) (fun c_28 => ?_)
      · skip
        have c_28 : ¬ s_jok (v_now V) t1 = -6 := fun q => absurd c_28 (by rw [q]; decide)
        refine lv_bipush (v := (-5)) hx hb dX5_joker_55 (by decide) ?_
        exact q_miret hx hb hr hlk dX5_joker_57 hP hS (by simp [jokR, jokM, jokE, ct1, c_5, cr1, c_12, c_28]) (by simp [jokR, jokM, jokE, ct1, c_5, cr1, c_12, c_28])
      · skip
        have c_28 : s_jok (v_now V) t1 = -6 := Classical.byContradiction fun q => c_28 (jk_p (jk_wk (ok_jok ho (t := t1) (by omega))) q)
        refine lv_aload_n hx hb dX5_joker_31 rfl (lv_at hl 0 rfl) ?_
        refine lv_iload_n hx hb dX5_joker_32 rfl (lv_at hl 2 rfl) ?_
        refine q_V (As := [.int (nI r1)]) (rest := []) ⟨hx, hb, hml, hown, hts⟩ (c_X5_isOpen l g d M (v_now V) K hc ho hK5 r1 (by first | omega | assumption)) (cwV 1 hts gX5_joker_X5_isOpen rfl rfl rfl (by decide +kernel) ⟨Nat.le_of_ble_eq_true rfl, Nat.le_of_ble_eq_true rfl⟩) q_B_blind (va_recv hK hP (ci := 4) (q0 := 0) rfl rfl) (q_B_of hP hK hN) rfl hl.1 rfl (Nat.le_of_ble_eq_true rfl) dX5_joker_33 (Nat.zero_le _) (Nat.zero_le _) ?_
        refine lv_if_eq (tgt := 55) hx hb dX5_joker_36 (by decide) (fun c_36 => ?_) (fun c_36 => ?_)
        · skip
          have c_36 : (isOp (v_now V) r1) = false := bI_eq c_36
          refine lv_bipush (v := (-5)) hx hb dX5_joker_55 (by decide) ?_
          exact q_miret hx hb hr hlk dX5_joker_57 hP hS (by simp [jokR, jokM, jokE, ct1, c_5, cr1, c_12, c_28, c_36]) (by simp [jokR, jokM, jokE, ct1, c_5, cr1, c_12, c_28, c_36])
        · skip
          have c_36 : (isOp (v_now V) r1) = true := bI_ne c_36
          refine lv_aload_n hx hb dX5_joker_39 rfl (lv_at hl 0 rfl) ?_
          refine va_get (D := g.1) (ci := 4) (v := .ref (d 1)) (C := RX5) (T := TX5) (N := 7) hx hb hts hi_X5 hown hK hP 0 rfl rfl 0 (by decide) fl_7 (fun _ h9 => h9) rfl dX5_joker_40 ?_
          refine lv_iload_n hx hb dX5_joker_43 rfl (lv_at hl 1 rfl) ?_
          refine lv_iload_n hx hb dX5_joker_44 rfl (lv_at hl 2 rfl) ?_
          refine q_S (As := [.int (nI t1), .int (nI r1)]) (rest := [.ref (d 1)]) ⟨hx, hb, hml, hown, hts⟩ (c_X5_h l t1 r1 ) (va_cwS 2 hts gX5_joker_X5_h rfl rfl rfl (by decide +kernel) ⟨Nat.le_of_ble_eq_true rfl, Nat.le_of_ble_eq_true rfl⟩) q_Blind_t (fun _ _ _ => trivial) rfl hl.1 rfl (Nat.le_of_ble_eq_true rfl) dX5_joker_45 (Nat.zero_le _) (Nat.zero_le _) ?_
          refine lv_iconst (v := 0) hx hb dX5_joker_48 (by decide) ?_
          refine lv_iadd hx hb dX5_joker_49 ?_
          refine q_reI (show (((nI (136 + 15 * (t1 * 8 + r1))) + 0) : Int32) = nI (136 + 15 * (t1 * 8 + r1) + 0) from nI_add _ _) ?_
          refine q_iald (j := (136 + 15 * (t1 * 8 + r1) + 0)) hx hb hK hP 1 0 rfl rfl (by omega) (by decide) dX5_joker_50 ?_
          refine q_reI (show (m_s M (136 + 15 * (t1 * 8 + r1) + 0) : Int32) = bI (hasS (v_now V) t1 r1) from cp_has hc (t := t1) (r := r1) (by omega) (by omega)) ?_
          refine lv_iconst (v := 1) hx hb dX5_joker_51 (by decide) ?_
          refine lv_icmp_ne (tgt := 58) hx hb dX5_joker_52 (by decide) (fun c_52 => ?_) (fun c_52 => ?_)
          · skip
            have c_52 : (hasS (v_now V) t1 r1) = false := bI_n1 c_52
            refine lv_aload_n hx hb dX5_joker_58 rfl (lv_at hl 0 rfl) ?_
            refine q_VM (As := []) (rest := []) (st2 := []) ⟨hx, hb, hml, hown, hts⟩ (c_X5_record l g d M hJ  (by first | omega | assumption)) (cwV 0 hts gX5_joker_X5_record rfl rfl rfl (by decide +kernel) ⟨Nat.le_of_ble_eq_true rfl, Nat.le_of_ble_eq_true rfl⟩) q_B_blind (va_recv hK hP (ci := 4) (q0 := 0) rfl rfl) (q_B_of hP hK hN) rfl hl.1 rfl (Nat.le_of_ble_eq_true rfl) dX5_joker_59 (Nat.zero_le _) (Nat.zero_le _) hS (fun _ h => h) rfl rfl rfl (fun H locs hP _ hS _ => ?_)
            have hP : va_P g.1 vwCl (q_mdW g d (m_rec M)) H := hP
            have hD : va_D (q_mAd d) (q_mdW g d (m_rec M)) := q_mD hJ (fun _ h => h)
            have hc : q_cp (v_now V) (m_s (m_rec M)) := by rw [m_recs]; exact hc
            refine lv_aload_n hx hb dX5_joker_62 rfl (lv_at hl 0 rfl) ?_
            refine va_get (D := g.1) (ci := 4) (v := .ref (d 1)) (C := RX5) (T := TX5) (N := 7) hx hb hts hi_X5 hown hK hP 0 rfl rfl 0 (by decide) fl_7 (fun _ h9 => h9) rfl dX5_joker_63 ?_
            refine lv_iload_n hx hb dX5_joker_66 rfl (lv_at hl 1 rfl) ?_
            refine q_S (As := [.int (nI t1)]) (rest := [.ref (d 1)]) ⟨hx, hb, hml, hown, hts⟩ (c_X5_t l t1 ) (va_cwS 1 hts gX5_joker_X5_t rfl rfl rfl (by decide +kernel) ⟨Nat.le_of_ble_eq_true rfl, Nat.le_of_ble_eq_true rfl⟩) q_Blind_t (fun _ _ _ => trivial) rfl hl.1 rfl (Nat.le_of_ble_eq_true rfl) dX5_joker_67 (Nat.zero_le _) (Nat.zero_le _) ?_
            refine lv_iconst (v := 1) hx hb dX5_joker_70 (by decide) ?_
            refine lv_iadd hx hb dX5_joker_71 ?_
            refine q_reI (show (((nI (96 + 4 * t1)) + 1) : Int32) = nI (96 + 4 * t1 + 1) from nI_add _ _) ?_
            refine lv_iload_n hx hb dX5_joker_72 rfl (lv_at hl 2 rfl) ?_
            refine lv_iconst (v := 1) hx hb dX5_joker_73 (by decide) ?_
            refine lv_iadd hx hb dX5_joker_74 ?_
            refine q_reI (show (((nI r1) + 1) : Int32) = nI (r1 + 1) from nI_add _ _) ?_
            refine q_iast (j := (96 + 4 * t1 + 1)) hx hb hK hP hD hS 1 0 rfl rfl (by omega) (by decide) dX5_joker_75 (fun H locs hP hS => ?_)
            have hP : va_P g.1 vwCl (q_mdW g d (n_s (m_rec M) (upd (m_s (m_rec M)) (96 + 4 * t1 + 1) (nI (r1 + 1))))) H := hP
            have hD : va_D (q_mAd d) (q_mdW g d (n_s (m_rec M) (upd (m_s (m_rec M)) (96 + 4 * t1 + 1) (nI (r1 + 1))))) := q_mD hJ (fun _ h => h)
            have hc : q_cp (jokS (v_now V) t1 r1) (m_s (n_s (m_rec M) (upd (m_s (m_rec M)) (96 + 4 * t1 + 1) (nI (r1 + 1))))) := cp_joku hc (by omega) (by omega)
            have ho : q_ok K (jokS (v_now V) t1 r1) := ok_joku ho (by omega) (by omega)
            have hn11 : s_n (jokS (v_now V) t1 r1) ≤ 10 := ok_n ho
            refine lv_aload_n hx hb dX5_joker_76 rfl (lv_at hl 0 rfl) ?_
            refine lv_iload_n hx hb dX5_joker_77 rfl (lv_at hl 2 rfl) ?_
            refine lv_iconst (v := 2) hx hb dX5_joker_78 (by decide) ?_
            refine q_V (As := [.int (nI r1), .int 2]) (rest := []) ⟨hx, hb, hml, hown, hts⟩ (c_X5_teamsOf l g d (n_s (m_rec M) (upd (m_s (m_rec M)) (96 + 4 * t1 + 1) (nI (r1 + 1)))) (jokS (v_now V) t1 r1) K hc ho hK5 r1 2 (by first | omega | assumption)) (cwV 2 hts gX5_joker_X5_teamsOf rfl rfl rfl (by decide +kernel) ⟨Nat.le_of_ble_eq_true rfl, Nat.le_of_ble_eq_true rfl⟩) q_B_blind (va_recv hK hP (ci := 4) (q0 := 0) rfl rfl) (q_B_of hP hK hN) rfl hl.1 rfl (Nat.le_of_ble_eq_true rfl) dX5_joker_79 (Nat.zero_le _) (Nat.zero_le _) ?_
            refine q_S (As := [.int (q_or (tem1 (jokS (v_now V) t1 r1) r1 2) (s_n (jokS (v_now V) t1 r1)))]) (rest := []) ⟨hx, hb, hml, hown, hts⟩ (c_X5_bits l (q_or (tem1 (jokS (v_now V) t1 r1) r1 2) (s_n (jokS (v_now V) t1 r1))) ) (va_cwS 1 hts gX5_joker_X5_bits rfl rfl rfl (by decide +kernel) ⟨Nat.le_of_ble_eq_true rfl, Nat.le_of_ble_eq_true rfl⟩) q_Blind_t (fun _ _ _ => trivial) rfl hl.1 rfl (Nat.le_of_ble_eq_true rfl) dX5_joker_82 (Nat.zero_le _) (Nat.zero_le _) ?_
            refine q_reI (show (bitI (q_or (tem1 (jokS (v_now V) t1 r1) r1 2) (s_n (jokS (v_now V) t1 r1))) : Int32) = nI (q_cnt (fun t => decide (s_jok (jokS (v_now V) t1 r1) t = nI r1)) (s_n (v_now V))) from by rw [tem_2]; exact q_bitN _ _ hn10) ?_
            exact q_miret hx hb hr hlk dX5_joker_85 hP hS (by simp [jokR, jokM, jokE, ct1, c_5, cr1, c_12, c_28, c_36, c_52]) (by simp [jokR, jokM, jokE, ct1, c_5, cr1, c_12, c_28, c_36, c_52])
          · skip
            have c_52 : (hasS (v_now V) t1 r1) = true := bI_e1 c_52
            refine lv_bipush (v := (-5)) hx hb dX5_joker_55 (by decide) ?_
            exact q_miret hx hb hr hlk dX5_joker_57 hP hS (by simp [jokR, jokM, jokE, ct1, c_5, cr1, c_12, c_28, c_36, c_52]) (by simp [jokR, jokM, jokE, ct1, c_5, cr1, c_12, c_28, c_36, c_52])
    · skip
      have c_12 : (isRd y) = false := bI_eq c_12
      refine lv_iconst (v := (-1)) hx hb dX5_joker_15 (by decide) ?_
      exact q_miret hx hb hr hlk dX5_joker_16 hP hS (by simp [jokR, jokM, jokE, ct1, c_5, c_12]) (by simp [jokR, jokM, jokE, ct1, c_5, c_12])

set_option maxHeartbeats 2000000 in
set_option maxRecDepth 100000 in
theorem c_X5_guess (l : Launch) (g : q_G) (d : Nat → Nat) (M : q_MV) (hJ : q_mInj d) (V : q_CV) (K : Nat) (hc : q_cp (v_now V) (m_s M)) (ho : q_ok K (v_now V)) (hK5 : K ≤ 512) (x : Int32) (y : Int32) (h1_ : m_st M ≤ 6) : Met l yX5_guess wsX5_guess { frames := 2, cells := 0, slots := 0, locals := 43 } (va_Pc [.ref (d 0), .int x, .int y] (q_B g (q_mdW g d M))) (q_QM g (q_mAd d) (q_mdW g d (gueM M V x y)) (some (.int (gueR V x y)))) 0 0 (q_mAd d) := by
  refine q_mm (cc := cX5_guess) (maxL := 4) (ret := (some .int)) (by decide) rfl (Nat.le_of_ble_eq_true rfl) ?_
  intro p e s m args below meth c ls hx hb hml hown hts hr hlk hnm hB hag hl
  obtain ⟨hP, hK, hN⟩ := hB
  have hS : va_S (q_mAd d) s.heap s.heap [] := va_S.rf
  have hP : va_P g.1 vwCl (q_mdW g d M) s.heap := hP
  have hD : va_D (q_mAd d) (q_mdW g d M) := q_mD hJ (fun _ h => h)
  have fl_7 := hts (.fieldLink RX5 7 "PubQuizzesModel" "s" "[I") (by decide +kernel)
  have hi_X5 : ∀ w ∈ u_ws RX5 TX5 7, w ∈ wsX5_guess := by decide +kernel
  have hl : lv_has ls 4 [(0, .ref (d 0)), (1, .int x), (2, .int y)] := hl
  have hn10 := ok_n ho
  refine lv_aload_n hx hb dX5_guess_0 rfl (lv_at hl 0 rfl) ?_
  refine lv_iload_n hx hb dX5_guess_1 rfl (lv_at hl 1 rfl) ?_
  refine q_V (As := [.int x]) (rest := []) ⟨hx, hb, hml, hown, hts⟩ (c_X5_isTeam l g d M (v_now V) K hc ho hK5 x ) (cwV 1 hts gX5_guess_X5_isTeam rfl rfl rfl (by decide +kernel) ⟨Nat.le_of_ble_eq_true rfl, Nat.le_of_ble_eq_true rfl⟩) q_B_blind (va_recv hK hP (ci := 4) (q0 := 0) rfl rfl) (q_B_of hP hK hN) rfl hl.1 rfl (Nat.le_of_ble_eq_true rfl) dX5_guess_2 (Nat.zero_le _) (Nat.zero_le _) ?_
  refine lv_if_ne (tgt := 10) hx hb dX5_guess_5 (by decide) (fun c_5 => ?_) (fun c_5 => ?_)
  · skip
    have c_5 : (isTm (v_now V) x) = true := bI_ne c_5
    obtain ⟨t1, ht1, ht1x, rfl⟩ := isTm_of hn10 c_5
    have ct1 : tN (nI t1) = t1 := tN_n (by omega)
    refine lv_iload_n hx hb dX5_guess_10 rfl (lv_at hl 2 rfl) ?_
    refine lv_iconst (v := 0) hx hb dX5_guess_11 (by decide) ?_
    refine lv_sipush (v := 9999) hx hb dX5_guess_12 (by decide) ?_
    refine q_S (As := [.int y, .int 0, .int 9999]) (rest := []) ⟨hx, hb, hml, hown, hts⟩ (c_X5_in l y 0 9999 ) (va_cwS 3 hts gX5_guess_X5_in rfl rfl rfl (by decide +kernel) ⟨Nat.le_of_ble_eq_true rfl, Nat.le_of_ble_eq_true rfl⟩) q_Blind_t (fun _ _ _ => trivial) rfl hl.1 rfl (Nat.le_of_ble_eq_true rfl) dX5_guess_15 (Nat.zero_le _) (Nat.zero_le _) ?_
    refine lv_if_ne (tgt := 24) hx hb dX5_guess_18 (by decide) (fun c_18 => ?_) (fun c_18 => ?_)
    · skip
      have c_18 : (inR y 0 9999) = true := bI_ne c_18
      obtain ⟨v1, hv1, rfl⟩ := inG_t c_18
      have cv1 : tN (nI v1) = v1 := tN_n (by omega)
      have ev1 := (inR_t c_18).1
      have ev2 := (inR_t c_18).2
      refine lv_aload_n hx hb dX5_guess_24 rfl (lv_at hl 0 rfl) ?_
      refine va_get (D := g.1) (ci := 4) (v := .ref (d 1)) (C := RX5) (T := TX5) (N := 7) hx hb hts hi_X5 hown hK hP 0 rfl rfl 0 (by decide) fl_7 (fun _ h9 => h9) rfl dX5_guess_25 ?_
      refine lv_iconst (v := 5) hx hb dX5_guess_28 (by decide) ?_
      refine q_iald (j := 5) hx hb hK hP 1 0 rfl rfl (by omega) (by decide) dX5_guess_29 ?_
      refine q_reI (show (m_s M 5 : Int32) = bI (!decide (s_tru (v_now V) = -6)) from cp_told hc) ?_
      refine lv_iconst (v := 1) hx hb dX5_guess_30 (by decide) ?_
      refine lv_icmp_ne (tgt := 37) hx hb dX5_guess_31 (by decide) (fun c_31 => ?_) (fun c_31 => ?_)
      · skip
        have c_31 : (!decide (s_tru (v_now V) = -6)) = false := bI_n1 c_31
        have e6 := tru_f c_31
        refine lv_aload_n hx hb dX5_guess_37 rfl (lv_at hl 0 rfl) ?_
        refine q_VM (As := []) (rest := []) (st2 := []) ⟨hx, hb, hml, hown, hts⟩ (c_X5_record l g d M hJ  (by first | omega | assumption)) (cwV 0 hts gX5_guess_X5_record rfl rfl rfl (by decide +kernel) ⟨Nat.le_of_ble_eq_true rfl, Nat.le_of_ble_eq_true rfl⟩) q_B_blind (va_recv hK hP (ci := 4) (q0 := 0) rfl rfl) (q_B_of hP hK hN) rfl hl.1 rfl (Nat.le_of_ble_eq_true rfl) dX5_guess_38 (Nat.zero_le _) (Nat.zero_le _) hS (fun _ h => h) rfl rfl rfl (fun H locs hP _ hS _ => ?_)
        have hP : va_P g.1 vwCl (q_mdW g d (m_rec M)) H := hP
        have hD : va_D (q_mAd d) (q_mdW g d (m_rec M)) := q_mD hJ (fun _ h => h)
        have hc : q_cp (v_now V) (m_s (m_rec M)) := by rw [m_recs]; exact hc
        refine lv_aload_n hx hb dX5_guess_41 rfl (lv_at hl 0 rfl) ?_
        refine va_get (D := g.1) (ci := 4) (v := .ref (d 1)) (C := RX5) (T := TX5) (N := 7) hx hb hts hi_X5 hown hK hP 0 rfl rfl 0 (by decide) fl_7 (fun _ h9 => h9) rfl dX5_guess_42 ?_
        refine lv_iload_n hx hb dX5_guess_45 rfl (lv_at hl 1 rfl) ?_
        refine q_S (As := [.int (nI t1)]) (rest := [.ref (d 1)]) ⟨hx, hb, hml, hown, hts⟩ (c_X5_t l t1 ) (va_cwS 1 hts gX5_guess_X5_t rfl rfl rfl (by decide +kernel) ⟨Nat.le_of_ble_eq_true rfl, Nat.le_of_ble_eq_true rfl⟩) q_Blind_t (fun _ _ _ => trivial) rfl hl.1 rfl (Nat.le_of_ble_eq_true rfl) dX5_guess_46 (Nat.zero_le _) (Nat.zero_le _) ?_
        refine lv_iconst (v := 3) hx hb dX5_guess_49 (by decide) ?_
        refine lv_iadd hx hb dX5_guess_50 ?_
        refine q_reI (show (((nI (96 + 4 * t1)) + 3) : Int32) = nI (96 + 4 * t1 + 3) from nI_add _ _) ?_
        refine q_iald (j := (96 + 4 * t1 + 3)) hx hb hK hP 1 0 rfl rfl (by omega) (by decide) dX5_guess_51 ?_
        refine q_reI (show (m_s (m_rec M) (96 + 4 * t1 + 3) : Int32) = jkI (s_gue (v_now V) t1) from cp_gue hc (t := t1) (by omega)) ?_
        refine lv_iconst (v := 1) hx hb dX5_guess_52 (by decide) ?_
        refine lv_isub hx hb dX5_guess_53 ?_
        refine q_reI (jk_m _) ?_
        refine lv_istore_n (lv' := [(3, .int (jm (s_gue (v_now V) t1))), (0, .ref (d 0)), (1, .int (nI t1)), (2, .int (nI v1))]) hx hb dX5_guess_54 rfl hl (by decide) rfl (fun ls hl => ?_)
        refine lv_aload_n hx hb dX5_guess_55 rfl (lv_at hl 1 rfl) ?_
        refine va_get (D := g.1) (ci := 4) (v := .ref (d 1)) (C := RX5) (T := TX5) (N := 7) hx hb hts hi_X5 hown hK hP 0 rfl rfl 0 (by decide) fl_7 (fun _ h9 => h9) rfl dX5_guess_56 ?_
        refine lv_iload_n hx hb dX5_guess_59 rfl (lv_at hl 2 rfl) ?_
        refine q_S (As := [.int (nI t1)]) (rest := [.ref (d 1)]) ⟨hx, hb, hml, hown, hts⟩ (c_X5_t l t1 ) (va_cwS 1 hts gX5_guess_X5_t rfl rfl rfl (by decide +kernel) ⟨Nat.le_of_ble_eq_true rfl, Nat.le_of_ble_eq_true rfl⟩) q_Blind_t (fun _ _ _ => trivial) rfl hl.1 rfl (Nat.le_of_ble_eq_true rfl) dX5_guess_60 (Nat.zero_le _) (Nat.zero_le _) ?_
        refine lv_iconst (v := 3) hx hb dX5_guess_63 (by decide) ?_
        refine lv_iadd hx hb dX5_guess_64 ?_
        refine q_reI (show (((nI (96 + 4 * t1)) + 3) : Int32) = nI (96 + 4 * t1 + 3) from nI_add _ _) ?_
        refine lv_iload_n hx hb dX5_guess_65 rfl (lv_at hl 3 rfl) ?_
        refine lv_iconst (v := 1) hx hb dX5_guess_66 (by decide) ?_
        refine lv_iadd hx hb dX5_guess_67 ?_
        refine q_reI (show (((nI v1) + 1) : Int32) = nI (v1 + 1) from nI_add _ _) ?_
        refine q_iast (j := (96 + 4 * t1 + 3)) hx hb hK hP hD hS 1 0 rfl rfl (by omega) (by decide) dX5_guess_68 (fun H locs hP hS => ?_)
        have hP : va_P g.1 vwCl (q_mdW g d (n_s (m_rec M) (upd (m_s (m_rec M)) (96 + 4 * t1 + 3) (nI (v1 + 1))))) H := hP
        have hD : va_D (q_mAd d) (q_mdW g d (n_s (m_rec M) (upd (m_s (m_rec M)) (96 + 4 * t1 + 3) (nI (v1 + 1))))) := q_mD hJ (fun _ h => h)
        refine lv_iload_n hx hb dX5_guess_69 rfl (lv_at hl 0 rfl) ?_
        refine lv_if_ge (tgt := 78) hx hb dX5_guess_70 (by decide) (fun c_70 => ?_) (fun c_70 => ?_)
        · skip
          have e7 := jm_ge c_70
          refine lv_iload_n hx hb dX5_guess_78 rfl (lv_at hl 0 rfl) ?_
          exact q_miret hx hb hr hlk dX5_guess_79 hP hS (by simp [gueR, gueM, gueE, jm, ct1, c_5, cv1, ev1, ev2, c_18, e6, c_31, e7, c_70]) (by simp [gueR, gueM, gueE, jm, ct1, c_5, cv1, ev1, ev2, c_18, e6, c_31, e7, c_70])
        · skip
          have e7 := jm_lt (ok_gue ho (t := t1) (by omega)) c_70
          refine lv_bipush (v := (-6)) hx hb dX5_guess_73 (by decide) ?_
          refine lv_goto (tgt := 79) hx hb dX5_guess_75 (by decide) ?_
          exact q_miret hx hb hr hlk dX5_guess_79 hP hS (by simp [gueR, gueM, gueE, jm, ct1, c_5, cv1, ev1, ev2, c_18, e6, c_31, e7, c_70]) (by simp [gueR, gueM, gueE, jm, ct1, c_5, cv1, ev1, ev2, c_18, e6, c_31, e7, c_70])
      · skip
        have c_31 : (!decide (s_tru (v_now V) = -6)) = true := bI_e1 c_31
        have e6 := tru_t c_31
        refine lv_bipush (v := (-5)) hx hb dX5_guess_34 (by decide) ?_
        exact q_miret hx hb hr hlk dX5_guess_36 hP hS (by simp [gueR, gueM, gueE, jm, ct1, c_5, cv1, ev1, ev2, c_18, e6, c_31]) (by simp [gueR, gueM, gueE, jm, ct1, c_5, cv1, ev1, ev2, c_18, e6, c_31])
    · skip
      have c_18 : (inR y 0 9999) = false := bI_eq c_18
      have hq := inR_f c_18
      refine lv_bipush (v := (-2)) hx hb dX5_guess_21 (by decide) ?_
      exact q_miret hx hb hr hlk dX5_guess_23 hP hS (by rcases hq with q | q <;> simp [gueR, gueE, q, ct1, c_5, c_18]) (by rcases hq with q | q <;> simp [gueM, gueE, q, ct1, c_5, c_18])
  · skip
    have c_5 : (isTm (v_now V) x) = false := bI_eq c_5
    refine lv_iconst (v := (-1)) hx hb dX5_guess_8 (by decide) ?_
    exact q_miret hx hb hr hlk dX5_guess_9 hP hS (by simp [gueR, gueM, gueE, jm, c_5]) (by simp [gueR, gueM, gueE, jm, c_5])

set_option maxHeartbeats 2000000 in
set_option maxRecDepth 100000 in
theorem c_X5_mark (l : Launch) (g : q_G) (d : Nat → Nat) (M : q_MV) (hJ : q_mInj d) (V : q_CV) (K : Nat) (hc : q_cp (v_now V) (m_s M)) (ho : q_ok K (v_now V)) (hK5 : K ≤ 512) (k : Int32) (x : Int32) (y : Int32) (z : Int32) (h1_ : m_st M ≤ 6) : Met l yX5_mark wsX5_mark { frames := 2, cells := 0, slots := 0, locals := 43 } (va_Pc [.ref (d 0), .int k, .int x, .int y, .int z] (q_B g (q_mdW g d M))) (q_QM g (q_mAd d) (q_mdW g d (marM M V k x y z)) (some (.int (marR V k x y z)))) 0 0 (q_mAd d) := by
  refine q_mm (cc := cX5_mark) (maxL := 6) (ret := (some .int)) (by decide) rfl (Nat.le_of_ble_eq_true rfl) ?_
  intro p e s m args below meth c ls hx hb hml hown hts hr hlk hnm hB hag hl
  obtain ⟨hP, hK, hN⟩ := hB
  have hS : va_S (q_mAd d) s.heap s.heap [] := va_S.rf
  have hP : va_P g.1 vwCl (q_mdW g d M) s.heap := hP
  have hD : va_D (q_mAd d) (q_mdW g d M) := q_mD hJ (fun _ h => h)
  have fl_7 := hts (.fieldLink RX5 7 "PubQuizzesModel" "s" "[I") (by decide +kernel)
  have hi_X5 : ∀ w ∈ u_ws RX5 TX5 7, w ∈ wsX5_mark := by decide +kernel
  have hl : lv_has ls 6 [(0, .ref (d 0)), (1, .int k), (2, .int x), (3, .int y), (4, .int z)] := hl
  have hn10 := ok_n ho
  refine lv_aload_n hx hb dX5_mark_0 rfl (lv_at hl 0 rfl) ?_
  refine lv_iload_n hx hb dX5_mark_1 rfl (lv_at hl 1 rfl) ?_
  refine q_V (As := [.int k]) (rest := []) ⟨hx, hb, hml, hown, hts⟩ (c_X5_isTeam l g d M (v_now V) K hc ho hK5 k ) (cwV 1 hts gX5_mark_X5_isTeam rfl rfl rfl (by decide +kernel) ⟨Nat.le_of_ble_eq_true rfl, Nat.le_of_ble_eq_true rfl⟩) q_B_blind (va_recv hK hP (ci := 4) (q0 := 0) rfl rfl) (q_B_of hP hK hN) rfl hl.1 rfl (Nat.le_of_ble_eq_true rfl) dX5_mark_2 (Nat.zero_le _) (Nat.zero_le _) ?_
  refine lv_if_eq (tgt := 23) hx hb dX5_mark_5 (by decide) (fun c_5 => ?_) (fun c_5 => ?_)
  · skip
    have c_5 : (isTm (v_now V) k) = false := bI_eq c_5
    refine lv_iconst (v := (-1)) hx hb dX5_mark_23 (by decide) ?_
    exact q_miret hx hb hr hlk dX5_mark_24 hP hS (by simp [marR, marM, marE, n_ss, c_5]) (by simp [marR, marM, marE, n_ss, c_5])
  · skip
    have c_5 : (isTm (v_now V) k) = true := bI_ne c_5
    obtain ⟨o1, ho1, ho1x, rfl⟩ := isTm_of hn10 c_5
    have co1 : tN (nI o1) = o1 := tN_n (by omega)
    refine lv_aload_n hx hb dX5_mark_8 rfl (lv_at hl 0 rfl) ?_
    refine lv_iload_n hx hb dX5_mark_9 rfl (lv_at hl 2 rfl) ?_
    refine q_V (As := [.int x]) (rest := []) ⟨hx, hb, hml, hown, hts⟩ (c_X5_isTeam l g d M (v_now V) K hc ho hK5 x ) (cwV 1 hts gX5_mark_X5_isTeam rfl rfl rfl (by decide +kernel) ⟨Nat.le_of_ble_eq_true rfl, Nat.le_of_ble_eq_true rfl⟩) q_B_blind (va_recv hK hP (ci := 4) (q0 := 0) rfl rfl) (q_B_of hP hK hN) rfl hl.1 rfl (Nat.le_of_ble_eq_true rfl) dX5_mark_10 (Nat.zero_le _) (Nat.zero_le _) ?_
    refine lv_if_eq (tgt := 23) hx hb dX5_mark_13 (by decide) (fun c_13 => ?_) (fun c_13 => ?_)
    · skip
      have c_13 : (isTm (v_now V) x) = false := bI_eq c_13
      refine lv_iconst (v := (-1)) hx hb dX5_mark_23 (by decide) ?_
      exact q_miret hx hb hr hlk dX5_mark_24 hP hS (by simp [marR, marM, marE, n_ss, co1, c_5, c_13]) (by simp [marR, marM, marE, n_ss, co1, c_5, c_13])
    · skip
      have c_13 : (isTm (v_now V) x) = true := bI_ne c_13
      obtain ⟨t1, ht1, ht1x, rfl⟩ := isTm_of hn10 c_13
      have ct1 : tN (nI t1) = t1 := tN_n (by omega)
      refine lv_iload_n hx hb dX5_mark_16 rfl (lv_at hl 3 rfl) ?_
      refine q_S (As := [.int y]) (rest := []) ⟨hx, hb, hml, hown, hts⟩ (c_X5_isRound l y ) (va_cwS 1 hts gX5_mark_X5_isRound rfl rfl rfl (by decide +kernel) ⟨Nat.le_of_ble_eq_true rfl, Nat.le_of_ble_eq_true rfl⟩) q_Blind_t (fun _ _ _ => trivial) rfl hl.1 rfl (Nat.le_of_ble_eq_true rfl) dX5_mark_17 (Nat.zero_le _) (Nat.zero_le _) ?_
      refine lv_if_ne (tgt := 25) hx hb dX5_mark_20 (by decide) (fun c_20 => ?_) (fun c_20 => ?_)
      · skip
        have c_20 : (isRd y) = true := bI_ne c_20
        obtain ⟨r1, hr1, rfl⟩ := isRd_of c_20
        have cr1 : tN (nI r1) = r1 := tN_n (by omega)
        refine lv_iload_n hx hb dX5_mark_25 rfl (lv_at hl 1 rfl) ?_
        refine lv_iload_n hx hb dX5_mark_26 rfl (lv_at hl 2 rfl) ?_
        refine lv_icmp_eq (tgt := 42) hx hb dX5_mark_27 (by decide) (fun c_27 => ?_) (fun c_27 => ?_)
        · skip
          refine lv_bipush (v := (-2)) hx hb dX5_mark_42 (by decide) ?_
          exact q_miret hx hb hr hlk dX5_mark_44 hP hS (by first | (simp [marR, marE, co1, c_5, ct1, c_13, cr1, c_20, c_27]; done) | (rcases hq with q | q <;> simp [marR, marE, q, co1, c_5, ct1, c_13, cr1, c_20, c_27])) (by first | (simp [marM, marE, co1, c_5, ct1, c_13, cr1, c_20, c_27]; done) | (rcases hq with q | q <;> simp [marM, marE, q, co1, c_5, ct1, c_13, cr1, c_20, c_27]))
        · skip
          refine lv_iload hx hb dX5_mark_30 (lv_at hl 4 rfl) ?_
          refine lv_bipush (v := (-20)) hx hb dX5_mark_32 (by decide) ?_
          refine lv_bipush (v := 10) hx hb dX5_mark_34 (by decide) ?_
          refine q_S (As := [.int z, .int (-20), .int 10]) (rest := []) ⟨hx, hb, hml, hown, hts⟩ (c_X5_in l z (-20) 10 ) (va_cwS 3 hts gX5_mark_X5_in rfl rfl rfl (by decide +kernel) ⟨Nat.le_of_ble_eq_true rfl, Nat.le_of_ble_eq_true rfl⟩) q_Blind_t (fun _ _ _ => trivial) rfl hl.1 rfl (Nat.le_of_ble_eq_true rfl) dX5_mark_36 (Nat.zero_le _) (Nat.zero_le _) ?_
          refine lv_if_ne (tgt := 45) hx hb dX5_mark_39 (by decide) (fun c_39 => ?_) (fun c_39 => ?_)
          · skip
            have c_39 : (inR z (-20) 10) = true := bI_ne c_39
            have ez1 := (inR_t c_39).1
            have ez2 := (inR_t c_39).2
            refine lv_iload_n hx hb dX5_mark_45 rfl (lv_at hl 2 rfl) ?_
            refine lv_iload_n hx hb dX5_mark_46 rfl (lv_at hl 3 rfl) ?_
            refine q_S (As := [.int (nI t1), .int (nI r1)]) (rest := []) ⟨hx, hb, hml, hown, hts⟩ (c_X5_h l t1 r1 ) (va_cwS 2 hts gX5_mark_X5_h rfl rfl rfl (by decide +kernel) ⟨Nat.le_of_ble_eq_true rfl, Nat.le_of_ble_eq_true rfl⟩) q_Blind_t (fun _ _ _ => trivial) rfl hl.1 rfl (Nat.le_of_ble_eq_true rfl) dX5_mark_47 (Nat.zero_le _) (Nat.zero_le _) ?_
            refine lv_istore (lv' := [(5, .int (nI (136 + 15 * (t1 * 8 + r1)))), (0, .ref (d 0)), (1, .int (nI o1)), (2, .int (nI t1)), (3, .int (nI r1)), (4, .int z)]) hx hb dX5_mark_50 hl (by decide) rfl (fun ls hl => ?_)
            refine lv_aload_n hx hb dX5_mark_52 rfl (lv_at hl 1 rfl) ?_
            refine lv_iload_n hx hb dX5_mark_53 rfl (lv_at hl 4 rfl) ?_
            refine q_V (As := [.int (nI r1)]) (rest := []) ⟨hx, hb, hml, hown, hts⟩ (c_X5_isOpen l g d M (v_now V) K hc ho hK5 r1 (by first | omega | assumption)) (cwV 1 hts gX5_mark_X5_isOpen rfl rfl rfl (by decide +kernel) ⟨Nat.le_of_ble_eq_true rfl, Nat.le_of_ble_eq_true rfl⟩) q_B_blind (va_recv hK hP (ci := 4) (q0 := 0) rfl rfl) (q_B_of hP hK hN) rfl hl.1 rfl (Nat.le_of_ble_eq_true rfl) dX5_mark_54 (Nat.zero_le _) (Nat.zero_le _) ?_
            refine lv_if_ne (tgt := 85) hx hb dX5_mark_57 (by decide) (fun c_57 => ?_) (fun c_57 => ?_)
            · skip
              have c_57 : (isOp (v_now V) r1) = true := bI_ne c_57
              refine lv_bipush (v := (-5)) hx hb dX5_mark_85 (by decide) ?_
              exact q_miret hx hb hr hlk dX5_mark_87 hP hS (by simp [marR, marM, marE, n_ss, co1, c_5, ct1, c_13, cr1, c_20, c_27, ez1, ez2, c_39, c_57]) (by simp [marR, marM, marE, n_ss, co1, c_5, ct1, c_13, cr1, c_20, c_27, ez1, ez2, c_39, c_57])
            · skip
              have c_57 : (isOp (v_now V) r1) = false := bI_eq c_57
              refine lv_aload_n hx hb dX5_mark_60 rfl (lv_at hl 1 rfl) ?_
              refine va_get (D := g.1) (ci := 4) (v := .ref (d 1)) (C := RX5) (T := TX5) (N := 7) hx hb hts hi_X5 hown hK hP 0 rfl rfl 0 (by decide) fl_7 (fun _ h9 => h9) rfl dX5_mark_61 ?_
              refine lv_iload hx hb dX5_mark_64 (lv_at hl 0 rfl) ?_
              refine lv_iconst (v := 0) hx hb dX5_mark_66 (by decide) ?_
              refine lv_iadd hx hb dX5_mark_67 ?_
              refine q_reI (show (((nI (136 + 15 * (t1 * 8 + r1))) + 0) : Int32) = nI (136 + 15 * (t1 * 8 + r1) + 0) from nI_add _ _) ?_
              refine q_iald (j := (136 + 15 * (t1 * 8 + r1) + 0)) hx hb hK hP 1 0 rfl rfl (by omega) (by decide) dX5_mark_68 ?_
              refine q_reI (show (m_s M (136 + 15 * (t1 * 8 + r1) + 0) : Int32) = bI (hasS (v_now V) t1 r1) from cp_has hc (t := t1) (r := r1) (by omega) (by omega)) ?_
              refine lv_if_eq (tgt := 85) hx hb dX5_mark_69 (by decide) (fun c_69 => ?_) (fun c_69 => ?_)
              · skip
                have c_69 : (hasS (v_now V) t1 r1) = false := bI_eq c_69
                refine lv_bipush (v := (-5)) hx hb dX5_mark_85 (by decide) ?_
                exact q_miret hx hb hr hlk dX5_mark_87 hP hS (by simp [marR, marM, marE, n_ss, co1, c_5, ct1, c_13, cr1, c_20, c_27, ez1, ez2, c_39, c_57, c_69]) (by simp [marR, marM, marE, n_ss, co1, c_5, ct1, c_13, cr1, c_20, c_27, ez1, ez2, c_39, c_57, c_69])
              · skip
                have c_69 : (hasS (v_now V) t1 r1) = true := bI_ne c_69
                refine lv_aload_n hx hb dX5_mark_72 rfl (lv_at hl 1 rfl) ?_
                refine va_get (D := g.1) (ci := 4) (v := .ref (d 1)) (C := RX5) (T := TX5) (N := 7) hx hb hts hi_X5 hown hK hP 0 rfl rfl 0 (by decide) fl_7 (fun _ h9 => h9) rfl dX5_mark_73 ?_
                refine lv_iload hx hb dX5_mark_76 (lv_at hl 0 rfl) ?_
                refine lv_iconst (v := 1) hx hb dX5_mark_78 (by decide) ?_
                refine lv_iadd hx hb dX5_mark_79 ?_
                refine q_reI (show (((nI (136 + 15 * (t1 * 8 + r1))) + 1) : Int32) = nI (136 + 15 * (t1 * 8 + r1) + 1) from nI_add _ _) ?_
                refine q_iald (j := (136 + 15 * (t1 * 8 + r1) + 1)) hx hb hK hP 1 0 rfl rfl (by omega) (by decide) dX5_mark_80 ?_
                refine q_reI (show (m_s M (136 + 15 * (t1 * 8 + r1) + 1) : Int32) = bI (tldS (v_now V) t1 r1) from cp_tld hc (t := t1) (r := r1) (by omega) (by omega)) ?_
                refine lv_iconst (v := 1) hx hb dX5_mark_81 (by decide) ?_
                refine lv_icmp_ne (tgt := 88) hx hb dX5_mark_82 (by decide) (fun c_82 => ?_) (fun c_82 => ?_)
                · skip
                  have c_82 : (tldS (v_now V) t1 r1) = false := bI_n1 c_82
                  refine lv_aload_n hx hb dX5_mark_88 rfl (lv_at hl 1 rfl) ?_
                  refine q_VM (As := []) (rest := []) (st2 := []) ⟨hx, hb, hml, hown, hts⟩ (c_X5_record l g d M hJ  (by first | omega | assumption)) (cwV 0 hts gX5_mark_X5_record rfl rfl rfl (by decide +kernel) ⟨Nat.le_of_ble_eq_true rfl, Nat.le_of_ble_eq_true rfl⟩) q_B_blind (va_recv hK hP (ci := 4) (q0 := 0) rfl rfl) (q_B_of hP hK hN) rfl hl.1 rfl (Nat.le_of_ble_eq_true rfl) dX5_mark_89 (Nat.zero_le _) (Nat.zero_le _) hS (fun _ h => h) rfl rfl rfl (fun H locs hP _ hS _ => ?_)
                  have hP : va_P g.1 vwCl (q_mdW g d (m_rec M)) H := hP
                  have hD : va_D (q_mAd d) (q_mdW g d (m_rec M)) := q_mD hJ (fun _ h => h)
                  have hc : q_cp (v_now V) (m_s (m_rec M)) := by rw [m_recs]; exact hc
                  refine lv_aload_n hx hb dX5_mark_92 rfl (lv_at hl 1 rfl) ?_
                  refine va_get (D := g.1) (ci := 4) (v := .ref (d 1)) (C := RX5) (T := TX5) (N := 7) hx hb hts hi_X5 hown hK hP 0 rfl rfl 0 (by decide) fl_7 (fun _ h9 => h9) rfl dX5_mark_93 ?_
                  refine lv_iload hx hb dX5_mark_96 (lv_at hl 0 rfl) ?_
                  refine lv_iconst (v := 1) hx hb dX5_mark_98 (by decide) ?_
                  refine lv_iadd hx hb dX5_mark_99 ?_
                  refine q_reI (show (((nI (136 + 15 * (t1 * 8 + r1))) + 1) : Int32) = nI (136 + 15 * (t1 * 8 + r1) + 1) from nI_add _ _) ?_
                  refine lv_iconst (v := 1) hx hb dX5_mark_100 (by decide) ?_
                  refine q_iast (j := (136 + 15 * (t1 * 8 + r1) + 1)) hx hb hK hP hD hS 1 0 rfl rfl (by omega) (by decide) dX5_mark_101 (fun H locs hP hS => ?_)
                  have hP : va_P g.1 vwCl (q_mdW g d (n_s (m_rec M) (upd (m_s (m_rec M)) (136 + 15 * (t1 * 8 + r1) + 1) 1))) H := hP
                  have hD : va_D (q_mAd d) (q_mdW g d (n_s (m_rec M) (upd (m_s (m_rec M)) (136 + 15 * (t1 * 8 + r1) + 1) 1))) := q_mD hJ (fun _ h => h)
                  refine lv_aload_n hx hb dX5_mark_102 rfl (lv_at hl 1 rfl) ?_
                  refine va_get (D := g.1) (ci := 4) (v := .ref (d 1)) (C := RX5) (T := TX5) (N := 7) hx hb hts hi_X5 hown hK hP 0 rfl rfl 0 (by decide) fl_7 (fun _ h9 => h9) rfl dX5_mark_103 ?_
                  refine lv_iload hx hb dX5_mark_106 (lv_at hl 0 rfl) ?_
                  refine lv_iconst (v := 2) hx hb dX5_mark_108 (by decide) ?_
                  refine lv_iadd hx hb dX5_mark_109 ?_
                  refine q_reI (show (((nI (136 + 15 * (t1 * 8 + r1))) + 2) : Int32) = nI (136 + 15 * (t1 * 8 + r1) + 2) from nI_add _ _) ?_
                  refine lv_iload hx hb dX5_mark_110 (lv_at hl 5 rfl) ?_
                  refine q_iast (j := (136 + 15 * (t1 * 8 + r1) + 2)) hx hb hK hP hD hS 1 0 rfl rfl (by omega) (by decide) dX5_mark_112 (fun H locs hP hS => ?_)
                  have hP : va_P g.1 vwCl (q_mdW g d (n_s (n_s (m_rec M) (upd (m_s (m_rec M)) (136 + 15 * (t1 * 8 + r1) + 1) 1)) (upd (upd (m_s (m_rec M)) (136 + 15 * (t1 * 8 + r1) + 1) 1) (136 + 15 * (t1 * 8 + r1) + 2) z))) H := hP
                  have hD : va_D (q_mAd d) (q_mdW g d (n_s (n_s (m_rec M) (upd (m_s (m_rec M)) (136 + 15 * (t1 * 8 + r1) + 1) 1)) (upd (upd (m_s (m_rec M)) (136 + 15 * (t1 * 8 + r1) + 1) 1) (136 + 15 * (t1 * 8 + r1) + 2) z))) := q_mD hJ (fun _ h => h)
                  refine lv_aload_n hx hb dX5_mark_113 rfl (lv_at hl 1 rfl) ?_
                  refine va_get (D := g.1) (ci := 4) (v := .ref (d 1)) (C := RX5) (T := TX5) (N := 7) hx hb hts hi_X5 hown hK hP 0 rfl rfl 0 (by decide) fl_7 (fun _ h9 => h9) rfl dX5_mark_114 ?_
                  refine lv_iload hx hb dX5_mark_117 (lv_at hl 0 rfl) ?_
                  refine lv_iconst (v := 3) hx hb dX5_mark_119 (by decide) ?_
                  refine lv_iadd hx hb dX5_mark_120 ?_
                  refine q_reI (show (((nI (136 + 15 * (t1 * 8 + r1))) + 3) : Int32) = nI (136 + 15 * (t1 * 8 + r1) + 3) from nI_add _ _) ?_
                  refine lv_iload_n hx hb dX5_mark_121 rfl (lv_at hl 2 rfl) ?_
                  refine q_iast (j := (136 + 15 * (t1 * 8 + r1) + 3)) hx hb hK hP hD hS 1 0 rfl rfl (by omega) (by decide) dX5_mark_122 (fun H locs hP hS => ?_)
                  have hP : va_P g.1 vwCl (q_mdW g d (n_s (n_s (n_s (m_rec M) (upd (m_s (m_rec M)) (136 + 15 * (t1 * 8 + r1) + 1) 1)) (upd (upd (m_s (m_rec M)) (136 + 15 * (t1 * 8 + r1) + 1) 1) (136 + 15 * (t1 * 8 + r1) + 2) z)) (upd (upd (upd (m_s (m_rec M)) (136 + 15 * (t1 * 8 + r1) + 1) 1) (136 + 15 * (t1 * 8 + r1) + 2) z) (136 + 15 * (t1 * 8 + r1) + 3) (nI o1)))) H := hP
                  have hD : va_D (q_mAd d) (q_mdW g d (n_s (n_s (n_s (m_rec M) (upd (m_s (m_rec M)) (136 + 15 * (t1 * 8 + r1) + 1) 1)) (upd (upd (m_s (m_rec M)) (136 + 15 * (t1 * 8 + r1) + 1) 1) (136 + 15 * (t1 * 8 + r1) + 2) z)) (upd (upd (upd (m_s (m_rec M)) (136 + 15 * (t1 * 8 + r1) + 1) 1) (136 + 15 * (t1 * 8 + r1) + 2) z) (136 + 15 * (t1 * 8 + r1) + 3) (nI o1)))) := q_mD hJ (fun _ h => h)
                  refine lv_iconst (v := 1) hx hb dX5_mark_123 (by decide) ?_
                  exact q_miret hx hb hr hlk dX5_mark_124 hP hS (by simp [marR, marM, marE, n_ss, co1, c_5, ct1, c_13, cr1, c_20, c_27, ez1, ez2, c_39, c_57, c_69, c_82]) (by simp [marR, marM, marE, n_ss, co1, c_5, ct1, c_13, cr1, c_20, c_27, ez1, ez2, c_39, c_57, c_69, c_82])
                · skip
                  have c_82 : (tldS (v_now V) t1 r1) = true := bI_e1 c_82
                  refine lv_bipush (v := (-5)) hx hb dX5_mark_85 (by decide) ?_
                  exact q_miret hx hb hr hlk dX5_mark_87 hP hS (by simp [marR, marM, marE, n_ss, co1, c_5, ct1, c_13, cr1, c_20, c_27, ez1, ez2, c_39, c_57, c_69, c_82]) (by simp [marR, marM, marE, n_ss, co1, c_5, ct1, c_13, cr1, c_20, c_27, ez1, ez2, c_39, c_57, c_69, c_82])
          · skip
            have c_39 : (inR z (-20) 10) = false := bI_eq c_39
            have hq := inR_f c_39
            refine lv_bipush (v := (-2)) hx hb dX5_mark_42 (by decide) ?_
            exact q_miret hx hb hr hlk dX5_mark_44 hP hS (by first | (simp [marR, marE, co1, c_5, ct1, c_13, cr1, c_20, c_27, c_39]; done) | (rcases hq with q | q <;> simp [marR, marE, q, co1, c_5, ct1, c_13, cr1, c_20, c_27, c_39])) (by first | (simp [marM, marE, co1, c_5, ct1, c_13, cr1, c_20, c_27, c_39]; done) | (rcases hq with q | q <;> simp [marM, marE, q, co1, c_5, ct1, c_13, cr1, c_20, c_27, c_39]))
      · skip
        have c_20 : (isRd y) = false := bI_eq c_20
        refine lv_iconst (v := (-1)) hx hb dX5_mark_23 (by decide) ?_
        exact q_miret hx hb hr hlk dX5_mark_24 hP hS (by simp [marR, marM, marE, n_ss, co1, c_5, ct1, c_13, c_20]) (by simp [marR, marM, marE, n_ss, co1, c_5, ct1, c_13, c_20])

set_option maxHeartbeats 2000000 in
set_option maxRecDepth 100000 in
theorem c_X5_team (l : Launch) (g : q_G) (d : Nat → Nat) (M : q_MV) (hJ : q_mInj d) (V : q_CV) (K : Nat) (hc : q_cp (v_now V) (m_s M)) (ho : q_ok K (v_now V)) (hK5 : K ≤ 512) (h1_ : m_st M ≤ 6) : Met l yX5_team wsX5_team { frames := 3, cells := 0, slots := 0, locals := 63 } (va_Pc [.ref (d 0)] (q_B g (q_mdW g d M))) (q_QM g (q_mAd d) (q_mdW g d (teaM M V)) (some (.int (teaR V)))) 0 0 (q_mAd d) := by
  refine q_mm (cc := cX5_team) (maxL := 2) (ret := (some .int)) (by decide) rfl (Nat.le_of_ble_eq_true rfl) ?_
  intro p e s m args below meth c ls hx hb hml hown hts hr hlk hnm hB hag hl
  obtain ⟨hP, hK, hN⟩ := hB
  have hS : va_S (q_mAd d) s.heap s.heap [] := va_S.rf
  have hP : va_P g.1 vwCl (q_mdW g d M) s.heap := hP
  have hD : va_D (q_mAd d) (q_mdW g d M) := q_mD hJ (fun _ h => h)
  have fl_7 := hts (.fieldLink RX5 7 "PubQuizzesModel" "s" "[I") (by decide +kernel)
  have hi_X5 : ∀ w ∈ u_ws RX5 TX5 7, w ∈ wsX5_team := by decide +kernel
  have hl : lv_has ls 2 [(0, .ref (d 0))] := hl
  have hn10 := ok_n ho
  refine lv_aload_n hx hb dX5_team_0 rfl (lv_at hl 0 rfl) ?_
  refine va_get (D := g.1) (ci := 4) (v := .ref (d 1)) (C := RX5) (T := TX5) (N := 7) hx hb hts hi_X5 hown hK hP 0 rfl rfl 0 (by decide) fl_7 (fun _ h9 => h9) rfl dX5_team_1 ?_
  refine lv_iconst (v := 4) hx hb dX5_team_4 (by decide) ?_
  refine q_iald (j := 4) hx hb hK hP 1 0 rfl rfl (by omega) (by decide) dX5_team_5 ?_
  refine q_reI (show (m_s M 4 : Int32) = nI (s_n (v_now V)) from cp_n hc) ?_
  refine lv_bipush (v := 10) hx hb dX5_team_6 (by decide) ?_
  refine lv_icmp_ne (tgt := 14) hx hb dX5_team_8 (by decide) (fun c_8 => ?_) (fun c_8 => ?_)
  · skip
    have hn : s_n (v_now V) < 10 := Nat.lt_of_le_of_ne hn10 fun q => c_8 (by rw [q]; rfl)
    refine lv_aload_n hx hb dX5_team_14 rfl (lv_at hl 0 rfl) ?_
    refine q_V (As := []) (rest := []) ⟨hx, hb, hml, hown, hts⟩ (c_X5_openRounds l g d M (v_now V) K hc ho hK5  ) (cwV 0 hts gX5_team_X5_openRounds rfl rfl rfl (by decide +kernel) ⟨Nat.le_of_ble_eq_true rfl, Nat.le_of_ble_eq_true rfl⟩) q_B_blind (va_recv hK hP (ci := 4) (q0 := 0) rfl rfl) (q_B_of hP hK hN) rfl hl.1 rfl (Nat.le_of_ble_eq_true rfl) dX5_team_15 (Nat.zero_le _) (Nat.zero_le _) ?_
    refine lv_sipush (v := 255) hx hb dX5_team_18 (by decide) ?_
    refine lv_icmp_eq (tgt := 27) hx hb dX5_team_21 (by decide) (fun c_21 => ?_) (fun c_21 => ?_)
    · skip
      refine lv_aload_n hx hb dX5_team_27 rfl (lv_at hl 0 rfl) ?_
      refine q_VM (As := []) (rest := []) (st2 := []) ⟨hx, hb, hml, hown, hts⟩ (c_X5_record l g d M hJ  (by first | omega | assumption)) (cwV 0 hts gX5_team_X5_record rfl rfl rfl (by decide +kernel) ⟨Nat.le_of_ble_eq_true rfl, Nat.le_of_ble_eq_true rfl⟩) q_B_blind (va_recv hK hP (ci := 4) (q0 := 0) rfl rfl) (q_B_of hP hK hN) rfl hl.1 rfl (Nat.le_of_ble_eq_true rfl) dX5_team_28 (Nat.zero_le _) (Nat.zero_le _) hS (fun _ h => h) rfl rfl rfl (fun H locs hP _ hS _ => ?_)
      have hP : va_P g.1 vwCl (q_mdW g d (m_rec M)) H := hP
      have hD : va_D (q_mAd d) (q_mdW g d (m_rec M)) := q_mD hJ (fun _ h => h)
      have hc : q_cp (v_now V) (m_s (m_rec M)) := by rw [m_recs]; exact hc
      refine lv_aload_n hx hb dX5_team_31 rfl (lv_at hl 0 rfl) ?_
      refine va_get (D := g.1) (ci := 4) (v := .ref (d 1)) (C := RX5) (T := TX5) (N := 7) hx hb hts hi_X5 hown hK hP 0 rfl rfl 0 (by decide) fl_7 (fun _ h9 => h9) rfl dX5_team_32 ?_
      refine lv_iconst (v := 4) hx hb dX5_team_35 (by decide) ?_
      refine q_iald (j := 4) hx hb hK hP 1 0 rfl rfl (by omega) (by decide) dX5_team_36 ?_
      refine q_reI (show (m_s (m_rec M) 4 : Int32) = nI (s_n (v_now V)) from cp_n hc) ?_
      refine lv_istore_n (lv' := [(1, .int (nI (s_n (v_now V)))), (0, .ref (d 0))]) hx hb dX5_team_37 rfl hl (by decide) rfl (fun ls hl => ?_)
      refine lv_aload_n hx hb dX5_team_38 rfl (lv_at hl 1 rfl) ?_
      refine va_get (D := g.1) (ci := 4) (v := .ref (d 1)) (C := RX5) (T := TX5) (N := 7) hx hb hts hi_X5 hown hK hP 0 rfl rfl 0 (by decide) fl_7 (fun _ h9 => h9) rfl dX5_team_39 ?_
      refine lv_iload_n hx hb dX5_team_42 rfl (lv_at hl 0 rfl) ?_
      refine q_S (As := [.int (nI (s_n (v_now V)))]) (rest := [.ref (d 1)]) ⟨hx, hb, hml, hown, hts⟩ (c_X5_t l (s_n (v_now V)) ) (va_cwS 1 hts gX5_team_X5_t rfl rfl rfl (by decide +kernel) ⟨Nat.le_of_ble_eq_true rfl, Nat.le_of_ble_eq_true rfl⟩) q_Blind_t (fun _ _ _ => trivial) rfl hl.1 rfl (Nat.le_of_ble_eq_true rfl) dX5_team_43 (Nat.zero_le _) (Nat.zero_le _) ?_
      refine lv_iconst (v := 0) hx hb dX5_team_46 (by decide) ?_
      refine lv_iadd hx hb dX5_team_47 ?_
      refine q_reI (show (((nI (96 + 4 * (s_n (v_now V)))) + 0) : Int32) = nI (96 + 4 * (s_n (v_now V)) + 0) from nI_add _ _) ?_
      refine lv_aload_n hx hb dX5_team_48 rfl (lv_at hl 1 rfl) ?_
      refine va_get (D := g.1) (ci := 4) (v := .ref (d 1)) (C := RX5) (T := TX5) (N := 7) hx hb hts hi_X5 hown hK hP 0 rfl rfl 0 (by decide) fl_7 (fun _ h9 => h9) rfl dX5_team_49 ?_
      refine lv_iconst (v := 0) hx hb dX5_team_52 (by decide) ?_
      refine q_iald (j := 0) hx hb hK hP 1 0 rfl rfl (by omega) (by decide) dX5_team_53 ?_
      refine q_reI (show (m_s (m_rec M) 0 : Int32) = s_set (v_now V) 0 from cp_set hc (k := 0) (by omega)) ?_
      refine q_iast (j := (96 + 4 * (s_n (v_now V)) + 0)) hx hb hK hP hD hS 1 0 rfl rfl (by omega) (by decide) dX5_team_54 (fun H locs hP hS => ?_)
      have hP : va_P g.1 vwCl (q_mdW g d (n_s (m_rec M) (upd (m_s (m_rec M)) (96 + 4 * (s_n (v_now V)) + 0) (s_set (v_now V) 0)))) H := hP
      have hD : va_D (q_mAd d) (q_mdW g d (n_s (m_rec M) (upd (m_s (m_rec M)) (96 + 4 * (s_n (v_now V)) + 0) (s_set (v_now V) 0)))) := q_mD hJ (fun _ h => h)
      refine lv_aload_n hx hb dX5_team_55 rfl (lv_at hl 1 rfl) ?_
      refine va_get (D := g.1) (ci := 4) (v := .ref (d 1)) (C := RX5) (T := TX5) (N := 7) hx hb hts hi_X5 hown hK hP 0 rfl rfl 0 (by decide) fl_7 (fun _ h9 => h9) rfl dX5_team_56 ?_
      refine lv_iconst (v := 4) hx hb dX5_team_59 (by decide) ?_
      refine lv_dup2_11 hx hb dX5_team_60 rfl rfl ?_
      refine q_iald (j := 4) hx hb hK hP 1 0 rfl rfl (by omega) (by decide) dX5_team_61 ?_
      refine q_reI (show (upd (m_s (m_rec M)) (96 + 4 * (s_n (v_now V)) + 0) (s_set (v_now V) 0) 4 : Int32) = nI (s_n (v_now V)) from (up_ne (by omega)).trans (cp_n hc)) ?_
      refine lv_iconst (v := 1) hx hb dX5_team_62 (by decide) ?_
      refine lv_iadd hx hb dX5_team_63 ?_
      refine q_reI (show (((nI (s_n (v_now V))) + 1) : Int32) = nI (s_n (v_now V) + 1) from nI_add _ _) ?_
      refine q_iast (j := 4) hx hb hK hP hD hS 1 0 rfl rfl (by omega) (by decide) dX5_team_64 (fun H locs hP hS => ?_)
      have hP : va_P g.1 vwCl (q_mdW g d (n_s (n_s (m_rec M) (upd (m_s (m_rec M)) (96 + 4 * (s_n (v_now V)) + 0) (s_set (v_now V) 0))) (upd (upd (m_s (m_rec M)) (96 + 4 * (s_n (v_now V)) + 0) (s_set (v_now V) 0)) 4 (nI (s_n (v_now V) + 1))))) H := hP
      have hD : va_D (q_mAd d) (q_mdW g d (n_s (n_s (m_rec M) (upd (m_s (m_rec M)) (96 + 4 * (s_n (v_now V)) + 0) (s_set (v_now V) 0))) (upd (upd (m_s (m_rec M)) (96 + 4 * (s_n (v_now V)) + 0) (s_set (v_now V) 0)) 4 (nI (s_n (v_now V) + 1))))) := q_mD hJ (fun _ h => h)
      refine lv_iload_n hx hb dX5_team_65 rfl (lv_at hl 0 rfl) ?_
      exact q_miret hx hb hr hlk dX5_team_66 hP hS (by simp [teaR, teaM, teaE, n_ss, hn, c_8, c_21]) (by simp [teaR, teaM, teaE, n_ss, hn, c_8, c_21])
    · skip
      refine lv_bipush (v := (-5)) hx hb dX5_team_24 (by decide) ?_
      exact q_miret hx hb hr hlk dX5_team_26 hP hS (by simp [teaR, teaM, teaE, n_ss, hn, c_8, c_21]) (by simp [teaR, teaM, teaE, n_ss, hn, c_8, c_21])
  · skip
    have hn : ¬ s_n (v_now V) < 10 := by have := (nI_eq (a := s_n (v_now V)) (b := 10) (by omega) (by decide)).mp c_8; omega
    refine lv_bipush (v := (-4)) hx hb dX5_team_11 (by decide) ?_
    exact q_miret hx hb hr hlk dX5_team_13 hP hS (by simp [teaR, teaM, teaE, n_ss, hn, c_8]) (by simp [teaR, teaM, teaE, n_ss, hn, c_8])

set_option maxHeartbeats 2000000 in
set_option maxRecDepth 100000 in
theorem c_X5_truth (l : Launch) (g : q_G) (d : Nat → Nat) (M : q_MV) (hJ : q_mInj d) (V : q_CV) (K : Nat) (hc : q_cp (v_now V) (m_s M)) (ho : q_ok K (v_now V)) (hK5 : K ≤ 512) (y : Int32) (h1_ : m_st M ≤ 6) : Met l yX5_truth wsX5_truth { frames := 1, cells := 0, slots := 0, locals := 22 } (va_Pc [.ref (d 0), .int y] (q_B g (q_mdW g d M))) (q_QM g (q_mAd d) (q_mdW g d (trhM M V y)) (some (.int (truR V y)))) 0 0 (q_mAd d) := by
  refine q_mm (cc := cX5_truth) (maxL := 4) (ret := (some .int)) (by decide) rfl (Nat.le_of_ble_eq_true rfl) ?_
  intro p e s m args below meth c ls hx hb hml hown hts hr hlk hnm hB hag hl
  obtain ⟨hP, hK, hN⟩ := hB
  have hS : va_S (q_mAd d) s.heap s.heap [] := va_S.rf
  have hP : va_P g.1 vwCl (q_mdW g d M) s.heap := hP
  have hD : va_D (q_mAd d) (q_mdW g d M) := q_mD hJ (fun _ h => h)
  have fl_7 := hts (.fieldLink RX5 7 "PubQuizzesModel" "s" "[I") (by decide +kernel)
  have hi_X5 : ∀ w ∈ u_ws RX5 TX5 7, w ∈ wsX5_truth := by decide +kernel
  have hl : lv_has ls 4 [(0, .ref (d 0)), (1, .int y)] := hl
  have hn10 := ok_n ho
  refine lv_iload_n hx hb dX5_truth_0 rfl (lv_at hl 1 rfl) ?_
  refine lv_iconst (v := 0) hx hb dX5_truth_1 (by decide) ?_
  refine lv_sipush (v := 9999) hx hb dX5_truth_2 (by decide) ?_
  refine q_S (As := [.int y, .int 0, .int 9999]) (rest := []) ⟨hx, hb, hml, hown, hts⟩ (c_X5_in l y 0 9999 ) (va_cwS 3 hts gX5_truth_X5_in rfl rfl rfl (by decide +kernel) ⟨Nat.le_of_ble_eq_true rfl, Nat.le_of_ble_eq_true rfl⟩) q_Blind_t (fun _ _ _ => trivial) rfl hl.1 rfl (Nat.le_of_ble_eq_true rfl) dX5_truth_5 (Nat.zero_le _) (Nat.zero_le _) ?_
  refine lv_if_ne (tgt := 14) hx hb dX5_truth_8 (by decide) (fun c_8 => ?_) (fun c_8 => ?_)
  · skip
    have c_8 : (inR y 0 9999) = true := bI_ne c_8
    obtain ⟨v1, hv1, rfl⟩ := inG_t c_8
    have cv1 : tN (nI v1) = v1 := tN_n (by omega)
    have ev1 := (inR_t c_8).1
    have ev2 := (inR_t c_8).2
    refine lv_aload_n hx hb dX5_truth_14 rfl (lv_at hl 0 rfl) ?_
    refine va_get (D := g.1) (ci := 4) (v := .ref (d 1)) (C := RX5) (T := TX5) (N := 7) hx hb hts hi_X5 hown hK hP 0 rfl rfl 0 (by decide) fl_7 (fun _ h9 => h9) rfl dX5_truth_15 ?_
    refine lv_iconst (v := 5) hx hb dX5_truth_18 (by decide) ?_
    refine q_iald (j := 5) hx hb hK hP 1 0 rfl rfl (by omega) (by decide) dX5_truth_19 ?_
    refine q_reI (show (m_s M 5 : Int32) = bI (!decide (s_tru (v_now V) = -6)) from cp_told hc) ?_
    refine lv_iconst (v := 1) hx hb dX5_truth_20 (by decide) ?_
    refine lv_icmp_ne (tgt := 27) hx hb dX5_truth_21 (by decide) (fun c_21 => ?_) (fun c_21 => ?_)
    · skip
      have c_21 : (!decide (s_tru (v_now V) = -6)) = false := bI_n1 c_21
      have e6 := tru_f c_21
      refine lv_aload_n hx hb dX5_truth_27 rfl (lv_at hl 0 rfl) ?_
      refine q_VM (As := []) (rest := []) (st2 := []) ⟨hx, hb, hml, hown, hts⟩ (c_X5_record l g d M hJ  (by first | omega | assumption)) (cwV 0 hts gX5_truth_X5_record rfl rfl rfl (by decide +kernel) ⟨Nat.le_of_ble_eq_true rfl, Nat.le_of_ble_eq_true rfl⟩) q_B_blind (va_recv hK hP (ci := 4) (q0 := 0) rfl rfl) (q_B_of hP hK hN) rfl hl.1 rfl (Nat.le_of_ble_eq_true rfl) dX5_truth_28 (Nat.zero_le _) (Nat.zero_le _) hS (fun _ h => h) rfl rfl rfl (fun H locs hP _ hS _ => ?_)
      have hP : va_P g.1 vwCl (q_mdW g d (m_rec M)) H := hP
      have hD : va_D (q_mAd d) (q_mdW g d (m_rec M)) := q_mD hJ (fun _ h => h)
      have hc : q_cp (v_now V) (m_s (m_rec M)) := by rw [m_recs]; exact hc
      refine lv_aload_n hx hb dX5_truth_31 rfl (lv_at hl 0 rfl) ?_
      refine va_get (D := g.1) (ci := 4) (v := .ref (d 1)) (C := RX5) (T := TX5) (N := 7) hx hb hts hi_X5 hown hK hP 0 rfl rfl 0 (by decide) fl_7 (fun _ h9 => h9) rfl dX5_truth_32 ?_
      refine lv_iconst (v := 5) hx hb dX5_truth_35 (by decide) ?_
      refine lv_iconst (v := 1) hx hb dX5_truth_36 (by decide) ?_
      refine q_iast (j := 5) hx hb hK hP hD hS 1 0 rfl rfl (by omega) (by decide) dX5_truth_37 (fun H locs hP hS => ?_)
      have hP : va_P g.1 vwCl (q_mdW g d (n_s (m_rec M) (upd (m_s (m_rec M)) 5 1))) H := hP
      have hD : va_D (q_mAd d) (q_mdW g d (n_s (m_rec M) (upd (m_s (m_rec M)) 5 1))) := q_mD hJ (fun _ h => h)
      refine lv_aload_n hx hb dX5_truth_38 rfl (lv_at hl 0 rfl) ?_
      refine va_get (D := g.1) (ci := 4) (v := .ref (d 1)) (C := RX5) (T := TX5) (N := 7) hx hb hts hi_X5 hown hK hP 0 rfl rfl 0 (by decide) fl_7 (fun _ h9 => h9) rfl dX5_truth_39 ?_
      refine lv_bipush (v := 6) hx hb dX5_truth_42 (by decide) ?_
      refine lv_iload_n hx hb dX5_truth_44 rfl (lv_at hl 1 rfl) ?_
      refine q_iast (j := 6) hx hb hK hP hD hS 1 0 rfl rfl (by omega) (by decide) dX5_truth_45 (fun H locs hP hS => ?_)
      have hP : va_P g.1 vwCl (q_mdW g d (n_s (n_s (m_rec M) (upd (m_s (m_rec M)) 5 1)) (upd (upd (m_s (m_rec M)) 5 1) 6 (nI v1)))) H := hP
      have hD : va_D (q_mAd d) (q_mdW g d (n_s (n_s (m_rec M) (upd (m_s (m_rec M)) 5 1)) (upd (upd (m_s (m_rec M)) 5 1) 6 (nI v1)))) := q_mD hJ (fun _ h => h)
      have hc : q_cp (u_tru (v_now V) (nI v1)) (m_s (n_s (n_s (m_rec M) (upd (m_s (m_rec M)) 5 1)) (upd (upd (m_s (m_rec M)) 5 1) 6 (nI v1)))) := cp_truu hc hv1
      have ho : q_ok K (u_tru (v_now V) (nI v1)) := ok_truu ho hv1
      have hn11 : s_n (u_tru (v_now V) (nI v1)) ≤ 10 := ok_n ho
      refine lv_iconst (v := 0) hx hb dX5_truth_46 (by decide) ?_
      refine lv_istore_n (lv' := [(2, .int 0), (0, .ref (d 0)), (1, .int (nI v1))]) hx hb dX5_truth_47 rfl hl (by decide) rfl (fun ls hl => ?_)
      refine lv_iconst (v := 0) hx hb dX5_truth_48 (by decide) ?_
      refine lv_istore_n (lv' := [(3, .int 0), (2, .int 0), (0, .ref (d 0)), (1, .int (nI v1))]) hx hb dX5_truth_49 rfl hl (by decide) rfl (fun ls hl => ?_)
      have L_50 : ∀ (fu i50 : Nat) (y2_50 : Int32), y2_50 = nI (q_cnt (fun t => !decide (s_gue (u_tru (v_now V) (nI v1)) t = -6)) i50) → i50 ≤ s_n (u_tru (v_now V) (nI v1)) → s_n (u_tru (v_now V) (nI v1)) < i50 + fu → ∀ ls : Array Slot, lv_has ls 4 [(3, .int (nI i50)), (2, .int y2_50), (0, .ref (d 0)), (1, .int (nI v1))] → W p l e { frames := 1, cells := 0, slots := 0, locals := 22 } s m args below meth c H locs 0 0 (MQ below (q_QM g (q_mAd d) (q_mdW g d (trhM M V (nI v1))) (some (.int (truR V (nI v1))))) args s 0 0 (q_mAd d)) (F0 m 50 ls []) := by
        intro fu
        induction fu with
        | zero => intro i50 y2_50 ey2_50 hi_i50 hn_i50; exact absurd hn_i50 (by omega)
        | succ fu ih_i50 =>
          intro i50 y2_50 ey2_50 hi_i50 hn_i50 ls hl
          subst ey2_50
          refine lv_iload_n hx hb dX5_truth_50 rfl (lv_at hl 0 rfl) ?_
          refine lv_aload_n hx hb dX5_truth_51 rfl (lv_at hl 2 rfl) ?_
          refine va_get (D := g.1) (ci := 4) (v := .ref (d 1)) (C := RX5) (T := TX5) (N := 7) hx hb hts hi_X5 hown hK hP 0 rfl rfl 0 (by decide) fl_7 (fun _ h9 => h9) rfl dX5_truth_52 ?_
          refine lv_iconst (v := 4) hx hb dX5_truth_55 (by decide) ?_
          refine q_iald (j := 4) hx hb hK hP 1 0 rfl rfl (by omega) (by decide) dX5_truth_56 ?_
          refine q_reI (show (upd (upd (m_s (m_rec M)) 5 1) 6 (nI v1) 4 : Int32) = nI (s_n (u_tru (v_now V) (nI v1))) from cp_n hc) ?_
          refine lv_icmp_ge (tgt := 88) hx hb dX5_truth_57 (by decide) (fun c_57 => ?_) (fun c_57 => ?_)
          · skip
            have e_57 : i50 = s_n (u_tru (v_now V) (nI v1)) := q_ge_T (by first | omega | exact Nat.lt_of_le_of_lt hn10 (by decide)) hi_i50 c_57
            subst e_57
            refine lv_iload_n hx hb dX5_truth_88 rfl (lv_at hl 1 rfl) ?_
            exact q_miret hx hb hr hlk dX5_truth_89 hP hS (by simp [truR, truE, cv1, ev1, ev2, c_8, e6, c_21]; rfl) (by simp [truR, trhM, truE, n_ss, cv1, ev1, ev2, c_8, e6, c_21])
          · skip
            have lt_i50 : i50 < s_n (u_tru (v_now V) (nI v1)) := q_ge_F (by first | omega | exact Nat.lt_of_le_of_lt hn10 (by decide)) hi_i50 c_57
            refine lv_iload_n hx hb dX5_truth_60 rfl (lv_at hl 1 rfl) ?_
            refine lv_aload_n hx hb dX5_truth_61 rfl (lv_at hl 2 rfl) ?_
            refine va_get (D := g.1) (ci := 4) (v := .ref (d 1)) (C := RX5) (T := TX5) (N := 7) hx hb hts hi_X5 hown hK hP 0 rfl rfl 0 (by decide) fl_7 (fun _ h9 => h9) rfl dX5_truth_62 ?_
            refine lv_iload_n hx hb dX5_truth_65 rfl (lv_at hl 0 rfl) ?_
            refine q_S (As := [.int (nI i50)]) (rest := [.ref (d 1), .int (nI (q_cnt (fun t => !decide (s_gue (u_tru (v_now V) (nI v1)) t = -6)) i50))]) ⟨hx, hb, hml, hown, hts⟩ (c_X5_t l i50 ) (va_cwS 1 hts gX5_truth_X5_t rfl rfl rfl (by decide +kernel) ⟨Nat.le_of_ble_eq_true rfl, Nat.le_of_ble_eq_true rfl⟩) q_Blind_t (fun _ _ _ => trivial) rfl hl.1 rfl (Nat.le_of_ble_eq_true rfl) dX5_truth_66 (Nat.zero_le _) (Nat.zero_le _) ?_
            refine lv_iconst (v := 3) hx hb dX5_truth_69 (by decide) ?_
            refine lv_iadd hx hb dX5_truth_70 ?_
            refine q_reI (show (((nI (96 + 4 * i50)) + 3) : Int32) = nI (96 + 4 * i50 + 3) from nI_add _ _) ?_
            refine q_iald (j := (96 + 4 * i50 + 3)) hx hb hK hP 1 0 rfl rfl (by omega) (by decide) dX5_truth_71 ?_
            refine q_reI (show (upd (upd (m_s (m_rec M)) 5 1) 6 (nI v1) (96 + 4 * i50 + 3) : Int32) = jkI (s_gue (u_tru (v_now V) (nI v1)) i50) from cp_gue hc (t := i50) (by omega)) ?_
            refine lv_if_le (tgt := 79) hx hb dX5_truth_72 (by decide) (fun c_72 => ?_) (fun c_72 => ?_)
            · skip
              have c_72 : s_gue (u_tru (v_now V) (nI v1)) i50 = -6 := Classical.byContradiction fun q => absurd (jk_p (ok_gue ho (t := i50) (by omega)) q) (Int32.not_lt.mpr c_72)
              refine lv_iconst (v := 0) hx hb dX5_truth_79 (by decide) ?_
              refine lv_iadd hx hb dX5_truth_80 ?_
              refine q_reI (show (((nI (q_cnt (fun t => !decide (s_gue (u_tru (v_now V) (nI v1)) t = -6)) i50)) + 0) : Int32) = nI (q_cnt (fun t => !decide (s_gue (u_tru (v_now V) (nI v1)) t = -6)) i50 + 0) from nI_add _ _) ?_
              refine lv_istore_n (lv' := [(2, .int (nI (q_cnt (fun t => !decide (s_gue (u_tru (v_now V) (nI v1)) t = -6)) i50 + 0))), (3, .int (nI i50)), (0, .ref (d 0)), (1, .int (nI v1))]) hx hb dX5_truth_81 rfl hl (by decide) rfl (fun ls hl => ?_)
              refine lv_iinc (v := nI (i50 + 1)) (lv' := [(3, .int (nI (i50 + 1))), (2, .int (nI (q_cnt (fun t => !decide (s_gue (u_tru (v_now V) (nI v1)) t = -6)) i50 + 0))), (0, .ref (d 0)), (1, .int (nI v1))]) hx hb dX5_truth_82 hl (k := 1) rfl (nI_1 _) (by decide) rfl (fun ls hl => ?_)
              refine lv_goto (tgt := 50) hx hb dX5_truth_85 (by decide) ?_
              exact ih_i50 (i50 + 1) (nI (q_cnt (fun t => !decide (s_gue (u_tru (v_now V) (nI v1)) t = -6)) i50 + 0)) (by first | (simp [q_acc, q_or, q_cnt, q_any, nI_1, truR, trhM, truE, n_ss, cv1, ev1, ev2, c_8, e6, c_21, c_72]; done) | rfl) lt_i50 (by omega) ls (lv_sub hl [0, 1, 2, 3] rfl)
            · skip
              have c_72 : ¬ s_gue (u_tru (v_now V) (nI v1)) i50 = -6 := fun q => absurd c_72 (by rw [q]; decide)
              refine lv_iconst (v := 1) hx hb dX5_truth_75 (by decide) ?_
              refine lv_goto (tgt := 80) hx hb dX5_truth_76 (by decide) ?_
              refine lv_iadd hx hb dX5_truth_80 ?_
              refine q_reI (show (((nI (q_cnt (fun t => !decide (s_gue (u_tru (v_now V) (nI v1)) t = -6)) i50)) + 1) : Int32) = nI (q_cnt (fun t => !decide (s_gue (u_tru (v_now V) (nI v1)) t = -6)) i50 + 1) from nI_add _ _) ?_
              refine lv_istore_n (lv' := [(2, .int (nI (q_cnt (fun t => !decide (s_gue (u_tru (v_now V) (nI v1)) t = -6)) i50 + 1))), (3, .int (nI i50)), (0, .ref (d 0)), (1, .int (nI v1))]) hx hb dX5_truth_81 rfl hl (by decide) rfl (fun ls hl => ?_)
              refine lv_iinc (v := nI (i50 + 1)) (lv' := [(3, .int (nI (i50 + 1))), (2, .int (nI (q_cnt (fun t => !decide (s_gue (u_tru (v_now V) (nI v1)) t = -6)) i50 + 1))), (0, .ref (d 0)), (1, .int (nI v1))]) hx hb dX5_truth_82 hl (k := 1) rfl (nI_1 _) (by decide) rfl (fun ls hl => ?_)
              refine lv_goto (tgt := 50) hx hb dX5_truth_85 (by decide) ?_
              exact ih_i50 (i50 + 1) (nI (q_cnt (fun t => !decide (s_gue (u_tru (v_now V) (nI v1)) t = -6)) i50 + 1)) (by first | (simp [q_acc, q_or, q_cnt, q_any, nI_1, truR, trhM, truE, n_ss, cv1, ev1, ev2, c_8, e6, c_21, c_72]; done) | rfl) lt_i50 (by omega) ls (lv_sub hl [0, 1, 2, 3] rfl)
      exact L_50 (s_n (u_tru (v_now V) (nI v1)) + 1) 0 0 (rfl) (Nat.zero_le _) (by omega) ls (lv_sub hl [0, 1, 2, 3] rfl)
    · skip
      have c_21 : (!decide (s_tru (v_now V) = -6)) = true := bI_e1 c_21
      have e6 := tru_t c_21
      refine lv_bipush (v := (-5)) hx hb dX5_truth_24 (by decide) ?_
      exact q_miret hx hb hr hlk dX5_truth_26 hP hS (by simp [truR, trhM, truE, n_ss, cv1, ev1, ev2, c_8, e6, c_21]) (by simp [truR, trhM, truE, n_ss, cv1, ev1, ev2, c_8, e6, c_21])
  · skip
    have c_8 : (inR y 0 9999) = false := bI_eq c_8
    have hq := inR_f c_8
    refine lv_bipush (v := (-2)) hx hb dX5_truth_11 (by decide) ?_
    exact q_miret hx hb hr hlk dX5_truth_13 hP hS (by rcases hq with q | q <;> simp [truR, truE, q, c_8]) (by rcases hq with q | q <;> simp [trhM, truE, q, c_8])
