/-! the reference's calls that write -/
theorem m_recs (M : q_MV) : m_s (m_rec M) = m_s M := by
  by_cases h : m_st M = 6
  · rw [show m_rec M = _ from if_pos h]; rfl
  · rw [show m_rec M = _ from if_neg h]; rfl
theorem m_recl (M : q_MV) : m_len (m_rec M) = m_len M := by
  by_cases h : m_st M = 6
  · rw [show m_rec M = _ from if_pos h]; rfl
  · rw [show m_rec M = _ from if_neg h]; rfl
theorem m_recp (M : q_MV) : m_pad (m_rec M) = m_pad M := by
  by_cases h : m_st M = 6
  · rw [show m_rec M = _ from if_pos h]; rfl
  · rw [show m_rec M = _ from if_neg h]; rfl
def m_set (M : q_MV) (k : Nat) (v : Int32) : q_MV := n_s (m_rec M) (upd (m_s (m_rec M)) k v)
def jokM (M : q_MV) (V : q_CV) (x y : Int32) : q_MV := if jokE V x y = 0 then n_s (m_rec M) (upd (m_s (m_rec M)) (96 + 4 * tN x + 1) (nI (tN y + 1))) else M

set_option maxHeartbeats 2000000 in
set_option maxRecDepth 100000 in
theorem c_X5_joker (l : Launch) (g : q_G) (d : Nat → Nat) (M : q_MV) (hJ : q_mInj d) (V : q_CV) (K : Nat) (hc : q_cp (v_now V) (m_s M)) (ho : q_ok K (v_now V)) (hK5 : K ≤ 512) (x : Int32) (y : Int32) (h1_ : m_st M ≤ 6) : Met l yX5_joker wsX5_joker { frames := 2, cells := 0, slots := 0, locals := 47 } (va_Pc [.ref (d 0), .int x, .int y] (q_B g (q_mdW g d M))) (q_QM g (q_mAd d) (q_mdW g d (jokM M V x y)) (some (.int (jokR V x y)))) 0 0 (q_mAd d) := by
  refine q_mm (cc := cX5_joker) (maxL := 3) (ret := (some .int)) (by decide) rfl (Nat.le_of_ble_eq_true rfl) ?_
  intro p e s m args below meth c ls hx hb hml hown hts hr hlk hnm hB hag hl
  obtain ⟨hP, hK, hN⟩ := hB
  have hS : va_S (q_mAd d) s.heap s.heap [] := va_S.rf
  have hP : va_P g.1 vwCl (q_mdW g d M) s.heap := hP
  have hD : va_D (q_mAd d) (q_mdW g d M) := q_mD hJ (fun _ h => h)
  have fl_7 := hts (.fieldLink RX5 7 "PubQuizzesModel" "s" "[I") (by decide +kernel)
  have hi_X5 : ∀ w ∈ u_ws RX5 TX5 7, w ∈ wsX5_joker := by decide +kernel
  have hl : lv_has ls 3 [(0, .ref (d 0)), (1, .int x), (2, .int y)] := hl
  have hn10 := ok_n ho
  refine lv_aload_n hx hb dX5_joker_0 rfl (lv_at hl 0 rfl) ?_
  refine lv_iload_n hx hb dX5_joker_1 rfl (lv_at hl 1 rfl) ?_
  refine q_V (As := [.int x]) (rest := []) ⟨hx, hb, hml, hown, hts⟩ (c_X5_isTeam l g d M (v_now V) K hc ho hK5 x ) (cwV 1 hts gX5_joker_X5_isTeam rfl rfl rfl (by decide +kernel) ⟨Nat.le_of_ble_eq_true rfl, Nat.le_of_ble_eq_true rfl⟩) q_B_blind (va_recv hK hP (ci := 4) (q0 := 0) rfl rfl) (q_B_of hP hK hN) rfl hl.1 rfl (Nat.le_of_ble_eq_true rfl) dX5_joker_2 (Nat.zero_le _) (Nat.zero_le _) ?_
  refine lv_if_eq (tgt := 15) hx hb dX5_joker_5 (by decide) (fun c_5 => ?_) (fun c_5 => ?_)
  · skip
    have c_5 : (isTm (v_now V) x) = false := bI_eq c_5
    refine lv_iconst (v := (-1)) hx hb dX5_joker_15 (by decide) ?_
    exact q_miret hx hb hr hlk dX5_joker_16 hP hS (by simp [jokR, jokM, jokE, c_5]) (by simp [jokR, jokM, jokE, c_5])
  · skip
    have c_5 : (isTm (v_now V) x) = true := bI_ne c_5
    obtain ⟨t1, ht1, ht1x, rfl⟩ := isTm_of hn10 c_5
    have ct1 : tN (nI t1) = t1 := tN_n (by omega)
    refine lv_iload_n hx hb dX5_joker_8 rfl (lv_at hl 2 rfl) ?_
    refine q_S (As := [.int y]) (rest := []) ⟨hx, hb, hml, hown, hts⟩ (c_X5_isRound l y ) (va_cwS 1 hts gX5_joker_X5_isRound rfl rfl rfl (by decide +kernel) ⟨Nat.le_of_ble_eq_true rfl, Nat.le_of_ble_eq_true rfl⟩) q_Blind_t (fun _ _ _ => trivial) rfl hl.1 rfl (Nat.le_of_ble_eq_true rfl) dX5_joker_9 (Nat.zero_le _) (Nat.zero_le _) ?_
    refine lv_if_ne (tgt := 17) hx hb dX5_joker_12 (by decide) (fun c_12 => ?_) (fun c_12 => ?_)
    · skip
      have c_12 : (isRd y) = true := bI_ne c_12
      obtain ⟨r1, hr1, rfl⟩ := isRd_of c_12
      have cr1 : tN (nI r1) = r1 := tN_n (by omega)
      refine lv_aload_n hx hb dX5_joker_17 rfl (lv_at hl 0 rfl) ?_
      refine va_get (D := g.1) (ci := 4) (v := .ref (d 1)) (C := RX5) (T := TX5) (N := 7) hx hb hts hi_X5 hown hK hP 0 rfl rfl 0 (by decide) fl_7 (fun _ h9 => h9) rfl dX5_joker_18 ?_
      refine lv_iload_n hx hb dX5_joker_21 rfl (lv_at hl 1 rfl) ?_
      refine q_S (As := [.int (nI t1)]) (rest := [.ref (d 1)]) ⟨hx, hb, hml, hown, hts⟩ (c_X5_t l t1 ) (va_cwS 1 hts gX5_joker_X5_t rfl rfl rfl (by decide +kernel) ⟨Nat.le_of_ble_eq_true rfl, Nat.le_of_ble_eq_true rfl⟩) q_Blind_t (fun _ _ _ => trivial) rfl hl.1 rfl (Nat.le_of_ble_eq_true rfl) dX5_joker_22 (Nat.zero_le _) (Nat.zero_le _) ?_
      refine lv_iconst (v := 1) hx hb dX5_joker_25 (by decide) ?_
      refine lv_iadd hx hb dX5_joker_26 ?_
      refine q_reI (show (((nI (96 + 4 * t1)) + 1) : Int32) = nI (96 + 4 * t1 + 1) from nI_add _ _) ?_
      refine q_iald (j := (96 + 4 * t1 + 1)) hx hb hK hP 1 0 rfl rfl (by omega) (by decide) dX5_joker_27 ?_
      refine q_reI (show (m_s M (96 + 4 * t1 + 1) : Int32) = jkI (s_jok (v_now V) t1) from cp_jok hc (t := t1) (by omega)) ?_
      refine lv_if_gt (tgt := 55) hx hb dX5_joker_28 (by decide) (fun c_28 => ?_) (fun c_28 => ?_)
      · skip
        have c_28 : ¬ s_jok (v_now V) t1 = -6 := fun q => absurd c_28 (by rw [q]; decide)
        refine lv_bipush (v := (-5)) hx hb dX5_joker_55 (by decide) ?_
        exact q_miret hx hb hr hlk dX5_joker_57 hP hS (by simp [jokR, jokM, jokE, ct1, c_5, cr1, c_12, c_28]) (by simp [jokR, jokM, jokE, ct1, c_5, cr1, c_12, c_28])
      · skip
        have c_28 : s_jok (v_now V) t1 = -6 := Classical.byContradiction fun q => c_28 (jk_p (jk_wk (ok_jok ho (t := t1) (by omega))) q)
        refine lv_aload_n hx hb dX5_joker_31 rfl (lv_at hl 0 rfl) ?_
        refine lv_iload_n hx hb dX5_joker_32 rfl (lv_at hl 2 rfl) ?_
        refine q_V (As := [.int (nI r1)]) (rest := []) ⟨hx, hb, hml, hown, hts⟩ (c_X5_isOpen l g d M (v_now V) K hc ho hK5 r1 (by first | omega | assumption)) (cwV 1 hts gX5_joker_X5_isOpen rfl rfl rfl (by decide +kernel) ⟨Nat.le_of_ble_eq_true rfl, Nat.le_of_ble_eq_true rfl⟩) q_B_blind (va_recv hK hP (ci := 4) (q0 := 0) rfl rfl) (q_B_of hP hK hN) rfl hl.1 rfl (Nat.le_of_ble_eq_true rfl) dX5_joker_33 (Nat.zero_le _) (Nat.zero_le _) ?_
        refine lv_if_eq (tgt := 55) hx hb dX5_joker_36 (by decide) (fun c_36 => ?_) (fun c_36 => ?_)
        · skip
          have c_36 : (isOp (v_now V) r1) = false := bI_eq c_36
          refine lv_bipush (v := (-5)) hx hb dX5_joker_55 (by decide) ?_
          exact q_miret hx hb hr hlk dX5_joker_57 hP hS (by simp [jokR, jokM, jokE, ct1, c_5, cr1, c_12, c_28, c_36]) (by simp [jokR, jokM, jokE, ct1, c_5, cr1, c_12, c_28, c_36])
        · skip
          have c_36 : (isOp (v_now V) r1) = true := bI_ne c_36
          refine lv_aload_n hx hb dX5_joker_39 rfl (lv_at hl 0 rfl) ?_
          refine va_get (D := g.1) (ci := 4) (v := .ref (d 1)) (C := RX5) (T := TX5) (N := 7) hx hb hts hi_X5 hown hK hP 0 rfl rfl 0 (by decide) fl_7 (fun _ h9 => h9) rfl dX5_joker_40 ?_
          refine lv_iload_n hx hb dX5_joker_43 rfl (lv_at hl 1 rfl) ?_
          refine lv_iload_n hx hb dX5_joker_44 rfl (lv_at hl 2 rfl) ?_
          refine q_S (As := [.int (nI t1), .int (nI r1)]) (rest := [.ref (d 1)]) ⟨hx, hb, hml, hown, hts⟩ (c_X5_h l t1 r1 ) (va_cwS 2 hts gX5_joker_X5_h rfl rfl rfl (by decide +kernel) ⟨Nat.le_of_ble_eq_true rfl, Nat.le_of_ble_eq_true rfl⟩) q_Blind_t (fun _ _ _ => trivial) rfl hl.1 rfl (Nat.le_of_ble_eq_true rfl) dX5_joker_45 (Nat.zero_le _) (Nat.zero_le _) ?_
          refine lv_iconst (v := 0) hx hb dX5_joker_48 (by decide) ?_
          refine lv_iadd hx hb dX5_joker_49 ?_
          refine q_reI (show (((nI (136 + 15 * (t1 * 8 + r1))) + 0) : Int32) = nI (136 + 15 * (t1 * 8 + r1) + 0) from nI_add _ _) ?_
          refine q_iald (j := (136 + 15 * (t1 * 8 + r1) + 0)) hx hb hK hP 1 0 rfl rfl (by omega) (by decide) dX5_joker_50 ?_
          refine q_reI (show (m_s M (136 + 15 * (t1 * 8 + r1) + 0) : Int32) = bI (hasS (v_now V) t1 r1) from cp_has hc (t := t1) (r := r1) (by omega) (by omega)) ?_
          refine lv_iconst (v := 1) hx hb dX5_joker_51 (by decide) ?_
          refine lv_icmp_ne (tgt := 58) hx hb dX5_joker_52 (by decide) (fun c_52 => ?_) (fun c_52 => ?_)
          · skip
            have c_52 : (hasS (v_now V) t1 r1) = false := bI_n1 c_52
            refine lv_aload_n hx hb dX5_joker_58 rfl (lv_at hl 0 rfl) ?_
            refine q_VM (As := []) (rest := []) (st2 := []) ⟨hx, hb, hml, hown, hts⟩ (c_X5_record l g d M hJ  (by first | omega | assumption)) (cwV 0 hts gX5_joker_X5_record rfl rfl rfl (by decide +kernel) ⟨Nat.le_of_ble_eq_true rfl, Nat.le_of_ble_eq_true rfl⟩) q_B_blind (va_recv hK hP (ci := 4) (q0 := 0) rfl rfl) (q_B_of hP hK hN) rfl hl.1 rfl (Nat.le_of_ble_eq_true rfl) dX5_joker_59 (Nat.zero_le _) (Nat.zero_le _) hS (fun _ h => h) rfl rfl rfl (fun H locs hP _ hS _ => ?_)
            have hP : va_P g.1 vwCl (q_mdW g d (m_rec M)) H := hP
            have hD : va_D (q_mAd d) (q_mdW g d (m_rec M)) := q_mD hJ (fun _ h => h)
            have hc : q_cp (v_now V) (m_s (m_rec M)) := by rw [m_recs]; exact hc
            refine lv_aload_n hx hb dX5_joker_62 rfl (lv_at hl 0 rfl) ?_
            refine va_get (D := g.1) (ci := 4) (v := .ref (d 1)) (C := RX5) (T := TX5) (N := 7) hx hb hts hi_X5 hown hK hP 0 rfl rfl 0 (by decide) fl_7 (fun _ h9 => h9) rfl dX5_joker_63 ?_
            refine lv_iload_n hx hb dX5_joker_66 rfl (lv_at hl 1 rfl) ?_
            refine q_S (As := [.int (nI t1)]) (rest := [.ref (d 1)]) ⟨hx, hb, hml, hown, hts⟩ (c_X5_t l t1 ) (va_cwS 1 hts gX5_joker_X5_t rfl rfl rfl (by decide +kernel) ⟨Nat.le_of_ble_eq_true rfl, Nat.le_of_ble_eq_true rfl⟩) q_Blind_t (fun _ _ _ => trivial) rfl hl.1 rfl (Nat.le_of_ble_eq_true rfl) dX5_joker_67 (Nat.zero_le _) (Nat.zero_le _) ?_
            refine lv_iconst (v := 1) hx hb dX5_joker_70 (by decide) ?_
            refine lv_iadd hx hb dX5_joker_71 ?_
            refine q_reI (show (((nI (96 + 4 * t1)) + 1) : Int32) = nI (96 + 4 * t1 + 1) from nI_add _ _) ?_
            refine lv_iload_n hx hb dX5_joker_72 rfl (lv_at hl 2 rfl) ?_
            refine lv_iconst (v := 1) hx hb dX5_joker_73 (by decide) ?_
            refine lv_iadd hx hb dX5_joker_74 ?_
            refine q_reI (show (((nI r1) + 1) : Int32) = nI (r1 + 1) from nI_add _ _) ?_
            refine q_iast (j := (96 + 4 * t1 + 1)) hx hb hK hP hD hS 1 0 rfl rfl (by omega) (by decide) dX5_joker_75 (fun H locs hP hS => ?_)
            have hP : va_P g.1 vwCl (q_mdW g d (n_s (m_rec M) (upd (m_s (m_rec M)) (96 + 4 * t1 + 1) (nI (r1 + 1))))) H := hP
            have hD : va_D (q_mAd d) (q_mdW g d (n_s (m_rec M) (upd (m_s (m_rec M)) (96 + 4 * t1 + 1) (nI (r1 + 1))))) := q_mD hJ (fun _ h => h)
            have hc : q_cp (jokS (v_now V) t1 r1) (m_s (n_s (m_rec M) (upd (m_s (m_rec M)) (96 + 4 * t1 + 1) (nI (r1 + 1))))) := cp_joku hc (by omega) (by omega)
            have ho : q_ok K (jokS (v_now V) t1 r1) := ok_joku ho (by omega) (by omega)
            refine lv_aload_n hx hb dX5_joker_76 rfl (lv_at hl 0 rfl) ?_
            refine lv_iload_n hx hb dX5_joker_77 rfl (lv_at hl 2 rfl) ?_
            refine lv_iconst (v := 2) hx hb dX5_joker_78 (by decide) ?_
            refine q_V (As := [.int (nI r1), .int 2]) (rest := []) ⟨hx, hb, hml, hown, hts⟩ (c_X5_teamsOf l g d (n_s (m_rec M) (upd (m_s (m_rec M)) (96 + 4 * t1 + 1) (nI (r1 + 1)))) (jokS (v_now V) t1 r1) K hc ho hK5 r1 2 (by first | omega | assumption)) (cwV 2 hts gX5_joker_X5_teamsOf rfl rfl rfl (by decide +kernel) ⟨Nat.le_of_ble_eq_true rfl, Nat.le_of_ble_eq_true rfl⟩) q_B_blind (va_recv hK hP (ci := 4) (q0 := 0) rfl rfl) (q_B_of hP hK hN) rfl hl.1 rfl (Nat.le_of_ble_eq_true rfl) dX5_joker_79 (Nat.zero_le _) (Nat.zero_le _) ?_
            refine q_S (As := [.int (q_or (tem1 (jokS (v_now V) t1 r1) r1 2) (s_n (jokS (v_now V) t1 r1)))]) (rest := []) ⟨hx, hb, hml, hown, hts⟩ (c_X5_bits l (q_or (tem1 (jokS (v_now V) t1 r1) r1 2) (s_n (jokS (v_now V) t1 r1))) ) (va_cwS 1 hts gX5_joker_X5_bits rfl rfl rfl (by decide +kernel) ⟨Nat.le_of_ble_eq_true rfl, Nat.le_of_ble_eq_true rfl⟩) q_Blind_t (fun _ _ _ => trivial) rfl hl.1 rfl (Nat.le_of_ble_eq_true rfl) dX5_joker_82 (Nat.zero_le _) (Nat.zero_le _) ?_
            exact q_miret hx hb hr hlk dX5_joker_85 hP hS (by simp [jokR, jokM, jokE, ct1, c_5, cr1, c_12, c_28, c_36, c_52]) (by simp [jokR, jokM, jokE, ct1, c_5, cr1, c_12, c_28, c_36, c_52])
          · skip
            have c_52 : (hasS (v_now V) t1 r1) = true := bI_e1 c_52
            refine lv_bipush (v := (-5)) hx hb dX5_joker_55 (by decide) ?_
            exact q_miret hx hb hr hlk dX5_joker_57 hP hS (by simp [jokR, jokM, jokE, ct1, c_5, cr1, c_12, c_28, c_36, c_52]) (by simp [jokR, jokM, jokE, ct1, c_5, cr1, c_12, c_28, c_36, c_52])
    · skip
      have c_12 : (isRd y) = false := bI_eq c_12
      refine lv_iconst (v := (-1)) hx hb dX5_joker_15 (by decide) ?_
      exact q_miret hx hb hr hlk dX5_joker_16 hP hS (by simp [jokR, jokM, jokE, ct1, c_5, c_12]) (by simp [jokR, jokM, jokE, ct1, c_5, c_12])
