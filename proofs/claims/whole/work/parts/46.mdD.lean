set_option maxHeartbeats 4000000 in
set_option maxRecDepth 100000 in
theorem c_X5_ofTeam (l : Launch) (g : q_G) (d : Nat → Nat) (M : q_MV) (V : q_CV) (K : Nat) (hc : q_cp (v_now V) (m_s M)) (ho : q_ok K (v_now V)) (hK5 : K ≤ 512) (hpl : v_pl V ≤ 80) (hln : m_len M = v_pl V) (hpd : ∀ k, k < v_pl V → m_pad M k = v_pc V k) (hst : m_st M = v_hl V) (x : Int32) (z : Int32) : q_PM l yX5_ofTeam wsX5_ofTeam { frames := 7, cells := 0, slots := 0, locals := 163 } [.ref (d 0), .int x, .int z] (q_B g (q_mdW g d M)) (.int (oftR V x z)) := by
  refine q_pm (cc := cX5_ofTeam) (maxL := 3) (ret := (some .int)) (by decide) rfl (Nat.le_of_ble_eq_true rfl) ?_
  intro p e s m args below meth c ls hx hb hml hown hts hr hlk hB hl
  obtain ⟨hP, hK, hN⟩ := hB
  have hn10 := ok_n ho
  have fl_7 := hts (.fieldLink RX5 7 "PubQuizzesModel" "s" "[I") (by decide +kernel)
  have hi_X5 : ∀ w ∈ u_ws RX5 TX5 7, w ∈ wsX5_ofTeam := by decide +kernel
  have hl : lv_has ls 3 [(0, .ref (d 0)), (1, .int x), (2, .int z)] := hl
  refine lv_aload_n hx hb dX5_ofTeam_0 rfl (lv_at hl 0 rfl) ?_
  refine lv_iload_n hx hb dX5_ofTeam_1 rfl (lv_at hl 1 rfl) ?_
  refine q_V (As := [.int x]) (rest := []) ⟨hx, hb, hml, hown, hts⟩ (c_X5_isTeam l g d M (v_now V) K hc ho hK5 x ) (cwV 1 hts gX5_ofTeam_X5_isTeam rfl rfl rfl (by decide +kernel) ⟨Nat.le_of_ble_eq_true rfl, Nat.le_of_ble_eq_true rfl⟩) q_B_blind (va_recv hK hP (ci := 4) (q0 := 0) rfl rfl) (q_B_of hP hK hN) rfl hl.1 rfl (Nat.le_of_ble_eq_true rfl) dX5_ofTeam_2 (Nat.zero_le _) (Nat.zero_le _) ?_
  refine lv_if_ne (tgt := 10) hx hb dX5_ofTeam_5 (by decide) (fun c_5 => ?_) (fun c_5 => ?_)
  · skip
    have c_5 : (isTm (v_now V) x) = true := bI_ne c_5
    obtain ⟨t1, ht1, ht1x, rfl⟩ := isTm_of hn10 c_5
    have ct1 : tN (nI t1) = t1 := tN_n (by omega)
    refine lv_iload_n hx hb dX5_ofTeam_10 rfl (lv_at hl 2 rfl) ?_
    by_cases w_11_0 : z = 0
    · skip
      have tx_11 : (z : Int32).toInt = 0 := by rw [w_11_0]; decide
      refine lv_tableIn (tgt := 64) (off := 53) hx hb dX5_ofTeam_11 (by rw [tx_11]; decide) (by rw [tx_11]; decide) (by rw [tx_11]; rfl) (by decide) ?_
      refine lv_aload_n hx hb dX5_ofTeam_64 rfl (lv_at hl 0 rfl) ?_
      refine lv_iload_n hx hb dX5_ofTeam_65 rfl (lv_at hl 1 rfl) ?_
      refine q_V (As := [.int (nI t1)]) (rest := []) ⟨hx, hb, hml, hown, hts⟩ (c_X5_score l g d M (v_now V) K hc ho hK5 t1 (by omega)) (cwV 1 hts gX5_ofTeam_X5_score rfl rfl rfl (by decide +kernel) ⟨Nat.le_of_ble_eq_true rfl, Nat.le_of_ble_eq_true rfl⟩) q_B_blind (va_recv hK hP (ci := 4) (q0 := 0) rfl rfl) (q_B_of hP hK hN) rfl hl.1 rfl (Nat.le_of_ble_eq_true rfl) dX5_ofTeam_66 (Nat.zero_le _) (Nat.zero_le _) ?_
      refine lv_sipush (v := 1000) hx hb dX5_ofTeam_69 (by decide) ?_
      refine lv_iadd hx hb dX5_ofTeam_72 ?_
      exact q_iret hx hb hr hlk dX5_ofTeam_73 (by simp [oftR, jm, rds_6, rds_7, ct1, c_5, w_11_0])
    by_cases w_11_1 : z = 1
    · skip
      have tx_11 : (z : Int32).toInt = 1 := by rw [w_11_1]; decide
      refine lv_tableIn (tgt := 74) (off := 63) hx hb dX5_ofTeam_11 (by rw [tx_11]; decide) (by rw [tx_11]; decide) (by rw [tx_11]; rfl) (by decide) ?_
      refine lv_aload_n hx hb dX5_ofTeam_74 rfl (lv_at hl 0 rfl) ?_
      refine lv_iload_n hx hb dX5_ofTeam_75 rfl (lv_at hl 1 rfl) ?_
      refine q_V (As := [.int (nI t1)]) (rest := []) ⟨hx, hb, hml, hown, hts⟩ (c_X5_rank l g d M (v_now V) K hc ho hK5 t1 (by omega)) (cwV 1 hts gX5_ofTeam_X5_rank rfl rfl rfl (by decide +kernel) ⟨Nat.le_of_ble_eq_true rfl, Nat.le_of_ble_eq_true rfl⟩) q_B_blind (va_recv hK hP (ci := 4) (q0 := 0) rfl rfl) (q_B_of hP hK hN) rfl hl.1 rfl (Nat.le_of_ble_eq_true rfl) dX5_ofTeam_76 (Nat.zero_le _) (Nat.zero_le _) ?_
      exact q_iret hx hb hr hlk dX5_ofTeam_79 (by simp [oftR, jm, rds_6, rds_7, ct1, c_5, w_11_0, w_11_1])
    by_cases w_11_2 : z = 2
    · skip
      have tx_11 : (z : Int32).toInt = 2 := by rw [w_11_2]; decide
      refine lv_tableIn (tgt := 80) (off := 69) hx hb dX5_ofTeam_11 (by rw [tx_11]; decide) (by rw [tx_11]; decide) (by rw [tx_11]; rfl) (by decide) ?_
      refine lv_aload_n hx hb dX5_ofTeam_80 rfl (lv_at hl 0 rfl) ?_
      refine lv_iload_n hx hb dX5_ofTeam_81 rfl (lv_at hl 1 rfl) ?_
      refine q_V (As := [.int (nI t1)]) (rest := []) ⟨hx, hb, hml, hown, hts⟩ (c_X5_prize l g d M (v_now V) K hc ho hK5 t1 (by omega) (by omega)) (cwV 1 hts gX5_ofTeam_X5_prize rfl rfl rfl (by decide +kernel) ⟨Nat.le_of_ble_eq_true rfl, Nat.le_of_ble_eq_true rfl⟩) q_B_blind (va_recv hK hP (ci := 4) (q0 := 0) rfl rfl) (q_B_of hP hK hN) rfl hl.1 rfl (Nat.le_of_ble_eq_true rfl) dX5_ofTeam_82 (Nat.zero_le _) (Nat.zero_le _) ?_
      exact q_iret hx hb hr hlk dX5_ofTeam_85 (by simp [oftR, jm, rds_6, rds_7, ct1, c_5, w_11_0, w_11_1, w_11_2])
    by_cases w_11_3 : z = 3
    · skip
      have tx_11 : (z : Int32).toInt = 3 := by rw [w_11_3]; decide
      refine lv_tableIn (tgt := 86) (off := 75) hx hb dX5_ofTeam_11 (by rw [tx_11]; decide) (by rw [tx_11]; decide) (by rw [tx_11]; rfl) (by decide) ?_
      refine lv_aload_n hx hb dX5_ofTeam_86 rfl (lv_at hl 0 rfl) ?_
      refine va_get (D := g.1) (ci := 4) (v := .ref (d 1)) (C := RX5) (T := TX5) (N := 7) hx hb hts hi_X5 hown hK hP 0 rfl rfl 0 (by decide) fl_7 (fun _ h9 => h9) rfl dX5_ofTeam_87 ?_
      refine lv_iload_n hx hb dX5_ofTeam_90 rfl (lv_at hl 1 rfl) ?_
      refine q_S (As := [.int (nI t1)]) (rest := [.ref (d 1)]) ⟨hx, hb, hml, hown, hts⟩ (c_X5_t l t1 ) (va_cwS 1 hts gX5_ofTeam_X5_t rfl rfl rfl (by decide +kernel) ⟨Nat.le_of_ble_eq_true rfl, Nat.le_of_ble_eq_true rfl⟩) q_Blind_t (fun _ _ _ => trivial) rfl hl.1 rfl (Nat.le_of_ble_eq_true rfl) dX5_ofTeam_91 (Nat.zero_le _) (Nat.zero_le _) ?_
      refine lv_iconst (v := 1) hx hb dX5_ofTeam_94 (by decide) ?_
      refine lv_iadd hx hb dX5_ofTeam_95 ?_
      refine q_reI (show (((nI (96 + 4 * t1)) + 1) : Int32) = nI (96 + 4 * t1 + 1) from nI_add _ _) ?_
      refine q_iald (j := (96 + 4 * t1 + 1)) hx hb hK hP 1 0 rfl rfl (by omega) (by decide) dX5_ofTeam_96 ?_
      refine q_reI (show (m_s M (96 + 4 * t1 + 1) : Int32) = jkI (s_jok (v_now V) t1) from cp_jok hc (t := t1) (by omega)) ?_
      refine lv_if_ne (tgt := 105) hx hb dX5_ofTeam_97 (by decide) (fun c_97 => ?_) (fun c_97 => ?_)
      · skip
        have c_97 := jk_n0 c_97
        refine lv_aload_n hx hb dX5_ofTeam_105 rfl (lv_at hl 0 rfl) ?_
        refine va_get (D := g.1) (ci := 4) (v := .ref (d 1)) (C := RX5) (T := TX5) (N := 7) hx hb hts hi_X5 hown hK hP 0 rfl rfl 0 (by decide) fl_7 (fun _ h9 => h9) rfl dX5_ofTeam_106 ?_
        refine lv_iload_n hx hb dX5_ofTeam_109 rfl (lv_at hl 1 rfl) ?_
        refine q_S (As := [.int (nI t1)]) (rest := [.ref (d 1)]) ⟨hx, hb, hml, hown, hts⟩ (c_X5_t l t1 ) (va_cwS 1 hts gX5_ofTeam_X5_t rfl rfl rfl (by decide +kernel) ⟨Nat.le_of_ble_eq_true rfl, Nat.le_of_ble_eq_true rfl⟩) q_Blind_t (fun _ _ _ => trivial) rfl hl.1 rfl (Nat.le_of_ble_eq_true rfl) dX5_ofTeam_110 (Nat.zero_le _) (Nat.zero_le _) ?_
        refine lv_iconst (v := 1) hx hb dX5_ofTeam_113 (by decide) ?_
        refine lv_iadd hx hb dX5_ofTeam_114 ?_
        refine q_reI (show (((nI (96 + 4 * t1)) + 1) : Int32) = nI (96 + 4 * t1 + 1) from nI_add _ _) ?_
        refine q_iald (j := (96 + 4 * t1 + 1)) hx hb hK hP 1 0 rfl rfl (by omega) (by decide) dX5_ofTeam_115 ?_
        refine q_reI (show (m_s M (96 + 4 * t1 + 1) : Int32) = jkI (s_jok (v_now V) t1) from cp_jok hc (t := t1) (by omega)) ?_
        refine lv_iconst (v := 1) hx hb dX5_ofTeam_116 (by decide) ?_
        refine lv_isub hx hb dX5_ofTeam_117 ?_
        refine q_reI (jk_m _) ?_
        exact q_iret hx hb hr hlk dX5_ofTeam_118 (by simp [oftR, jm, rds_6, rds_7, ct1, c_5, w_11_0, w_11_1, w_11_2, w_11_3, c_97])
      · skip
        have c_97 := jk_0 (jk_wk (ok_jok ho (t := t1) (by omega))) c_97
        refine lv_bipush (v := (-6)) hx hb dX5_ofTeam_100 (by decide) ?_
        refine lv_goto (tgt := 118) hx hb dX5_ofTeam_102 (by decide) ?_
        exact q_iret hx hb hr hlk dX5_ofTeam_118 (by simp [oftR, jm, rds_6, rds_7, ct1, c_5, w_11_0, w_11_1, w_11_2, w_11_3, c_97])
    by_cases w_11_4 : z = 4
    · skip
      have tx_11 : (z : Int32).toInt = 4 := by rw [w_11_4]; decide
      refine lv_tableIn (tgt := 119) (off := 108) hx hb dX5_ofTeam_11 (by rw [tx_11]; decide) (by rw [tx_11]; decide) (by rw [tx_11]; rfl) (by decide) ?_
      refine lv_aload_n hx hb dX5_ofTeam_119 rfl (lv_at hl 0 rfl) ?_
      refine va_get (D := g.1) (ci := 4) (v := .ref (d 1)) (C := RX5) (T := TX5) (N := 7) hx hb hts hi_X5 hown hK hP 0 rfl rfl 0 (by decide) fl_7 (fun _ h9 => h9) rfl dX5_ofTeam_120 ?_
      refine lv_iload_n hx hb dX5_ofTeam_123 rfl (lv_at hl 1 rfl) ?_
      refine q_S (As := [.int (nI t1)]) (rest := [.ref (d 1)]) ⟨hx, hb, hml, hown, hts⟩ (c_X5_t l t1 ) (va_cwS 1 hts gX5_ofTeam_X5_t rfl rfl rfl (by decide +kernel) ⟨Nat.le_of_ble_eq_true rfl, Nat.le_of_ble_eq_true rfl⟩) q_Blind_t (fun _ _ _ => trivial) rfl hl.1 rfl (Nat.le_of_ble_eq_true rfl) dX5_ofTeam_124 (Nat.zero_le _) (Nat.zero_le _) ?_
      refine lv_iconst (v := 2) hx hb dX5_ofTeam_127 (by decide) ?_
      refine lv_iadd hx hb dX5_ofTeam_128 ?_
      refine q_reI (show (((nI (96 + 4 * t1)) + 2) : Int32) = nI (96 + 4 * t1 + 2) from nI_add _ _) ?_
      refine q_iald (j := (96 + 4 * t1 + 2)) hx hb hK hP 1 0 rfl rfl (by omega) (by decide) dX5_ofTeam_129 ?_
      refine q_reI (show (m_s M (96 + 4 * t1 + 2) : Int32) = s_fin (v_now V) t1 from cp_fin hc (t := t1) (by omega)) ?_
      exact q_iret hx hb hr hlk dX5_ofTeam_130 (by simp [oftR, jm, rds_6, rds_7, ct1, c_5, w_11_0, w_11_1, w_11_2, w_11_3, w_11_4])
    by_cases w_11_5 : z = 5
    · skip
      have tx_11 : (z : Int32).toInt = 5 := by rw [w_11_5]; decide
      refine lv_tableIn (tgt := 131) (off := 120) hx hb dX5_ofTeam_11 (by rw [tx_11]; decide) (by rw [tx_11]; decide) (by rw [tx_11]; rfl) (by decide) ?_
      refine lv_aload_n hx hb dX5_ofTeam_131 rfl (lv_at hl 0 rfl) ?_
      refine va_get (D := g.1) (ci := 4) (v := .ref (d 1)) (C := RX5) (T := TX5) (N := 7) hx hb hts hi_X5 hown hK hP 0 rfl rfl 0 (by decide) fl_7 (fun _ h9 => h9) rfl dX5_ofTeam_132 ?_
      refine lv_iload_n hx hb dX5_ofTeam_135 rfl (lv_at hl 1 rfl) ?_
      refine q_S (As := [.int (nI t1)]) (rest := [.ref (d 1)]) ⟨hx, hb, hml, hown, hts⟩ (c_X5_t l t1 ) (va_cwS 1 hts gX5_ofTeam_X5_t rfl rfl rfl (by decide +kernel) ⟨Nat.le_of_ble_eq_true rfl, Nat.le_of_ble_eq_true rfl⟩) q_Blind_t (fun _ _ _ => trivial) rfl hl.1 rfl (Nat.le_of_ble_eq_true rfl) dX5_ofTeam_136 (Nat.zero_le _) (Nat.zero_le _) ?_
      refine lv_iconst (v := 3) hx hb dX5_ofTeam_139 (by decide) ?_
      refine lv_iadd hx hb dX5_ofTeam_140 ?_
      refine q_reI (show (((nI (96 + 4 * t1)) + 3) : Int32) = nI (96 + 4 * t1 + 3) from nI_add _ _) ?_
      refine q_iald (j := (96 + 4 * t1 + 3)) hx hb hK hP 1 0 rfl rfl (by omega) (by decide) dX5_ofTeam_141 ?_
      refine q_reI (show (m_s M (96 + 4 * t1 + 3) : Int32) = jkI (s_gue (v_now V) t1) from cp_gue hc (t := t1) (by omega)) ?_
      refine lv_if_ne (tgt := 150) hx hb dX5_ofTeam_142 (by decide) (fun c_142 => ?_) (fun c_142 => ?_)
      · skip
        have c_142 := jk_n0 c_142
        refine lv_aload_n hx hb dX5_ofTeam_150 rfl (lv_at hl 0 rfl) ?_
        refine va_get (D := g.1) (ci := 4) (v := .ref (d 1)) (C := RX5) (T := TX5) (N := 7) hx hb hts hi_X5 hown hK hP 0 rfl rfl 0 (by decide) fl_7 (fun _ h9 => h9) rfl dX5_ofTeam_151 ?_
        refine lv_iload_n hx hb dX5_ofTeam_154 rfl (lv_at hl 1 rfl) ?_
        refine q_S (As := [.int (nI t1)]) (rest := [.ref (d 1)]) ⟨hx, hb, hml, hown, hts⟩ (c_X5_t l t1 ) (va_cwS 1 hts gX5_ofTeam_X5_t rfl rfl rfl (by decide +kernel) ⟨Nat.le_of_ble_eq_true rfl, Nat.le_of_ble_eq_true rfl⟩) q_Blind_t (fun _ _ _ => trivial) rfl hl.1 rfl (Nat.le_of_ble_eq_true rfl) dX5_ofTeam_155 (Nat.zero_le _) (Nat.zero_le _) ?_
        refine lv_iconst (v := 3) hx hb dX5_ofTeam_158 (by decide) ?_
        refine lv_iadd hx hb dX5_ofTeam_159 ?_
        refine q_reI (show (((nI (96 + 4 * t1)) + 3) : Int32) = nI (96 + 4 * t1 + 3) from nI_add _ _) ?_
        refine q_iald (j := (96 + 4 * t1 + 3)) hx hb hK hP 1 0 rfl rfl (by omega) (by decide) dX5_ofTeam_160 ?_
        refine q_reI (show (m_s M (96 + 4 * t1 + 3) : Int32) = jkI (s_gue (v_now V) t1) from cp_gue hc (t := t1) (by omega)) ?_
        refine lv_iconst (v := 1) hx hb dX5_ofTeam_161 (by decide) ?_
        refine lv_isub hx hb dX5_ofTeam_162 ?_
        refine q_reI (jk_m _) ?_
        exact q_iret hx hb hr hlk dX5_ofTeam_163 (by simp [oftR, jm, rds_6, rds_7, ct1, c_5, w_11_0, w_11_1, w_11_2, w_11_3, w_11_4, w_11_5, c_142])
      · skip
        have c_142 := jk_0 (ok_gue ho (t := t1) (by omega)) c_142
        refine lv_bipush (v := (-6)) hx hb dX5_ofTeam_145 (by decide) ?_
        refine lv_goto (tgt := 163) hx hb dX5_ofTeam_147 (by decide) ?_
        exact q_iret hx hb hr hlk dX5_ofTeam_163 (by simp [oftR, jm, rds_6, rds_7, ct1, c_5, w_11_0, w_11_1, w_11_2, w_11_3, w_11_4, w_11_5, c_142])
    by_cases w_11_6 : z = 6
    · skip
      have tx_11 : (z : Int32).toInt = 6 := by rw [w_11_6]; decide
      refine lv_tableIn (tgt := 164) (off := 153) hx hb dX5_ofTeam_11 (by rw [tx_11]; decide) (by rw [tx_11]; decide) (by rw [tx_11]; rfl) (by decide) ?_
      refine lv_aload_n hx hb dX5_ofTeam_164 rfl (lv_at hl 0 rfl) ?_
      refine lv_iload_n hx hb dX5_ofTeam_165 rfl (lv_at hl 1 rfl) ?_
      refine lv_iload_n hx hb dX5_ofTeam_166 rfl (lv_at hl 2 rfl) ?_
      refine q_V (As := [.int (nI t1), .int z]) (rest := []) ⟨hx, hb, hml, hown, hts⟩ (c_X5_roundsOf l g d M (v_now V) K hc ho hK5 t1 z (by omega)) (cwV 2 hts gX5_ofTeam_X5_roundsOf rfl rfl rfl (by decide +kernel) ⟨Nat.le_of_ble_eq_true rfl, Nat.le_of_ble_eq_true rfl⟩) q_B_blind (va_recv hK hP (ci := 4) (q0 := 0) rfl rfl) (q_B_of hP hK hN) rfl hl.1 rfl (Nat.le_of_ble_eq_true rfl) dX5_ofTeam_167 (Nat.zero_le _) (Nat.zero_le _) ?_
      exact q_iret hx hb hr hlk dX5_ofTeam_170 (by simp [oftR, jm, rds_6, rds_7, ct1, c_5, w_11_0, w_11_1, w_11_2, w_11_3, w_11_4, w_11_5, w_11_6])
    by_cases w_11_7 : z = 7
    · skip
      have tx_11 : (z : Int32).toInt = 7 := by rw [w_11_7]; decide
      refine lv_tableIn (tgt := 164) (off := 153) hx hb dX5_ofTeam_11 (by rw [tx_11]; decide) (by rw [tx_11]; decide) (by rw [tx_11]; rfl) (by decide) ?_
      refine lv_aload_n hx hb dX5_ofTeam_164 rfl (lv_at hl 0 rfl) ?_
      refine lv_iload_n hx hb dX5_ofTeam_165 rfl (lv_at hl 1 rfl) ?_
      refine lv_iload_n hx hb dX5_ofTeam_166 rfl (lv_at hl 2 rfl) ?_
      refine q_V (As := [.int (nI t1), .int z]) (rest := []) ⟨hx, hb, hml, hown, hts⟩ (c_X5_roundsOf l g d M (v_now V) K hc ho hK5 t1 z (by omega)) (cwV 2 hts gX5_ofTeam_X5_roundsOf rfl rfl rfl (by decide +kernel) ⟨Nat.le_of_ble_eq_true rfl, Nat.le_of_ble_eq_true rfl⟩) q_B_blind (va_recv hK hP (ci := 4) (q0 := 0) rfl rfl) (q_B_of hP hK hN) rfl hl.1 rfl (Nat.le_of_ble_eq_true rfl) dX5_ofTeam_167 (Nat.zero_le _) (Nat.zero_le _) ?_
      exact q_iret hx hb hr hlk dX5_ofTeam_170 (by simp [oftR, jm, rds_6, rds_7, ct1, c_5, w_11_0, w_11_1, w_11_2, w_11_3, w_11_4, w_11_5, w_11_6, w_11_7])
    by_cases w_11_8 : z = 8
    · skip
      have tx_11 : (z : Int32).toInt = 8 := by rw [w_11_8]; decide
      refine lv_tableIn (tgt := 171) (off := 160) hx hb dX5_ofTeam_11 (by rw [tx_11]; decide) (by rw [tx_11]; decide) (by rw [tx_11]; rfl) (by decide) ?_
      refine lv_aload_n hx hb dX5_ofTeam_171 rfl (lv_at hl 0 rfl) ?_
      refine va_get (D := g.1) (ci := 4) (v := .ref (d 1)) (C := RX5) (T := TX5) (N := 7) hx hb hts hi_X5 hown hK hP 0 rfl rfl 0 (by decide) fl_7 (fun _ h9 => h9) rfl dX5_ofTeam_172 ?_
      refine lv_iload_n hx hb dX5_ofTeam_175 rfl (lv_at hl 1 rfl) ?_
      refine q_S (As := [.int (nI t1)]) (rest := [.ref (d 1)]) ⟨hx, hb, hml, hown, hts⟩ (c_X5_t l t1 ) (va_cwS 1 hts gX5_ofTeam_X5_t rfl rfl rfl (by decide +kernel) ⟨Nat.le_of_ble_eq_true rfl, Nat.le_of_ble_eq_true rfl⟩) q_Blind_t (fun _ _ _ => trivial) rfl hl.1 rfl (Nat.le_of_ble_eq_true rfl) dX5_ofTeam_176 (Nat.zero_le _) (Nat.zero_le _) ?_
      refine lv_iconst (v := 0) hx hb dX5_ofTeam_179 (by decide) ?_
      refine lv_iadd hx hb dX5_ofTeam_180 ?_
      refine q_reI (show (((nI (96 + 4 * t1)) + 0) : Int32) = nI (96 + 4 * t1 + 0) from nI_add _ _) ?_
      refine q_iald (j := (96 + 4 * t1 + 0)) hx hb hK hP 1 0 rfl rfl (by omega) (by decide) dX5_ofTeam_181 ?_
      refine q_reI (show (m_s M (96 + 4 * t1 + 0) : Int32) = s_paid (v_now V) t1 from cp_paid hc (t := t1) (by omega)) ?_
      exact q_iret hx hb hr hlk dX5_ofTeam_182 (by simp [oftR, jm, rds_6, rds_7, ct1, c_5, w_11_0, w_11_1, w_11_2, w_11_3, w_11_4, w_11_5, w_11_6, w_11_7, w_11_8])
    by_cases w_11_9 : z = 9
    · skip
      have tx_11 : (z : Int32).toInt = 9 := by rw [w_11_9]; decide
      refine lv_tableIn (tgt := 183) (off := 172) hx hb dX5_ofTeam_11 (by rw [tx_11]; decide) (by rw [tx_11]; decide) (by rw [tx_11]; rfl) (by decide) ?_
      refine lv_aload_n hx hb dX5_ofTeam_183 rfl (lv_at hl 0 rfl) ?_
      refine lv_iload_n hx hb dX5_ofTeam_184 rfl (lv_at hl 1 rfl) ?_
      refine q_V (As := [.int (nI t1)]) (rest := []) ⟨hx, hb, hml, hown, hts⟩ (c_X5_tied l g d M (v_now V) K hc ho hK5 t1 (by omega)) (cwV 1 hts gX5_ofTeam_X5_tied rfl rfl rfl (by decide +kernel) ⟨Nat.le_of_ble_eq_true rfl, Nat.le_of_ble_eq_true rfl⟩) q_B_blind (va_recv hK hP (ci := 4) (q0 := 0) rfl rfl) (q_B_of hP hK hN) rfl hl.1 rfl (Nat.le_of_ble_eq_true rfl) dX5_ofTeam_185 (Nat.zero_le _) (Nat.zero_le _) ?_
      exact q_iret hx hb hr hlk dX5_ofTeam_188 (by simp [oftR, jm, rds_6, rds_7, ct1, c_5, w_11_0, w_11_1, w_11_2, w_11_3, w_11_4, w_11_5, w_11_6, w_11_7, w_11_8, w_11_9])
    have tw_11 := q_tab (n := 10) (lo := 0) (x := z) (by decide) (lt_s (p := fun k => ¬ z = nI (k + 0)) (lt_s (p := fun k => ¬ z = nI (k + 0)) (lt_s (p := fun k => ¬ z = nI (k + 0)) (lt_s (p := fun k => ¬ z = nI (k + 0)) (lt_s (p := fun k => ¬ z = nI (k + 0)) (lt_s (p := fun k => ¬ z = nI (k + 0)) (lt_s (p := fun k => ¬ z = nI (k + 0)) (lt_s (p := fun k => ¬ z = nI (k + 0)) (lt_s (p := fun k => ¬ z = nI (k + 0)) (lt_s (p := fun k => ¬ z = nI (k + 0)) (lt_0) w_11_0) w_11_1) w_11_2) w_11_3) w_11_4) w_11_5) w_11_6) w_11_7) w_11_8) w_11_9)
    refine lv_tableOut (tgt := 189) hx hb dX5_ofTeam_11 (by omega) (by decide) ?_
    refine lv_bipush (v := (-2)) hx hb dX5_ofTeam_189 (by decide) ?_
    exact q_iret hx hb hr hlk dX5_ofTeam_191 (by simp [oftR, jm, rds_6, rds_7, ct1, c_5, w_11_0, w_11_1, w_11_2, w_11_3, w_11_4, w_11_5, w_11_6, w_11_7, w_11_8, w_11_9])
  · skip
    have c_5 : (isTm (v_now V) x) = false := bI_eq c_5
    refine lv_iconst (v := (-1)) hx hb dX5_ofTeam_8 (by decide) ?_
    exact q_iret hx hb hr hlk dX5_ofTeam_9 (by simp [oftR, jm, rds_6, rds_7, c_5])

set_option maxHeartbeats 4000000 in
set_option maxRecDepth 100000 in
theorem c_X5_ofRound (l : Launch) (g : q_G) (d : Nat → Nat) (M : q_MV) (V : q_CV) (K : Nat) (hc : q_cp (v_now V) (m_s M)) (ho : q_ok K (v_now V)) (hK5 : K ≤ 512) (hpl : v_pl V ≤ 80) (hln : m_len M = v_pl V) (hpd : ∀ k, k < v_pl V → m_pad M k = v_pc V k) (hst : m_st M = v_hl V) (y : Int32) (z : Int32) : q_PM l yX5_ofRound wsX5_ofRound { frames := 4, cells := 0, slots := 0, locals := 89 } [.ref (d 0), .int y, .int z] (q_B g (q_mdW g d M)) (.int (ofrR V y z)) := by
  refine q_pm (cc := cX5_ofRound) (maxL := 3) (ret := (some .int)) (by decide) rfl (Nat.le_of_ble_eq_true rfl) ?_
  intro p e s m args below meth c ls hx hb hml hown hts hr hlk hB hl
  obtain ⟨hP, hK, hN⟩ := hB
  have hn10 := ok_n ho
  have hl : lv_has ls 3 [(0, .ref (d 0)), (1, .int y), (2, .int z)] := hl
  refine lv_iload_n hx hb dX5_ofRound_0 rfl (lv_at hl 1 rfl) ?_
  refine q_S (As := [.int y]) (rest := []) ⟨hx, hb, hml, hown, hts⟩ (c_X5_isRound l y ) (va_cwS 1 hts gX5_ofRound_X5_isRound rfl rfl rfl (by decide +kernel) ⟨Nat.le_of_ble_eq_true rfl, Nat.le_of_ble_eq_true rfl⟩) q_Blind_t (fun _ _ _ => trivial) rfl hl.1 rfl (Nat.le_of_ble_eq_true rfl) dX5_ofRound_1 (Nat.zero_le _) (Nat.zero_le _) ?_
  refine lv_if_ne (tgt := 9) hx hb dX5_ofRound_4 (by decide) (fun c_4 => ?_) (fun c_4 => ?_)
  · skip
    have c_4 : (isRd y) = true := bI_ne c_4
    obtain ⟨r1, hr1, rfl⟩ := isRd_of c_4
    have cr1 : tN (nI r1) = r1 := tN_n (by omega)
    have hlo := ok_loo ho (r := r1) (by omega)
    refine lv_iload_n hx hb dX5_ofRound_9 rfl (lv_at hl 2 rfl) ?_
    by_cases w_10_0 : z = 0
    · skip
      have tx_10 : (z : Int32).toInt = 0 := by rw [w_10_0]; decide
      refine lv_tableIn (tgt := 48) (off := 38) hx hb dX5_ofRound_10 (by rw [tx_10]; decide) (by rw [tx_10]; decide) (by rw [tx_10]; rfl) (by decide) ?_
      refine lv_aload_n hx hb dX5_ofRound_48 rfl (lv_at hl 0 rfl) ?_
      refine lv_iload_n hx hb dX5_ofRound_49 rfl (lv_at hl 1 rfl) ?_
      refine q_V (As := [.int (nI r1)]) (rest := []) ⟨hx, hb, hml, hown, hts⟩ (c_X5_isOpen l g d M (v_now V) K hc ho hK5 r1 (by omega)) (cwV 1 hts gX5_ofRound_X5_isOpen rfl rfl rfl (by decide +kernel) ⟨Nat.le_of_ble_eq_true rfl, Nat.le_of_ble_eq_true rfl⟩) q_B_blind (va_recv hK hP (ci := 4) (q0 := 0) rfl rfl) (q_B_of hP hK hN) rfl hl.1 rfl (Nat.le_of_ble_eq_true rfl) dX5_ofRound_50 (Nat.zero_le _) (Nat.zero_le _) ?_
      refine lv_if_eq (tgt := 60) hx hb dX5_ofRound_53 (by decide) (fun c_53 => ?_) (fun c_53 => ?_)
      · skip
        have c_53 : (isOp (v_now V) r1) = false := bI_eq c_53
        refine lv_iconst (v := 0) hx hb dX5_ofRound_60 (by decide) ?_
        exact q_iret hx hb hr hlk dX5_ofRound_61 (by simp [ofrR, bI, grxS, tem_1, tem_2, tem_3, tem_4, cr1, hlo, c_4, w_10_0, c_53])
      · skip
        have c_53 : (isOp (v_now V) r1) = true := bI_ne c_53
        refine lv_iconst (v := 1) hx hb dX5_ofRound_56 (by decide) ?_
        refine lv_goto (tgt := 61) hx hb dX5_ofRound_57 (by decide) ?_
        exact q_iret hx hb hr hlk dX5_ofRound_61 (by simp [ofrR, bI, grxS, tem_1, tem_2, tem_3, tem_4, cr1, hlo, c_4, w_10_0, c_53])
    by_cases w_10_1 : z = 1
    · skip
      have tx_10 : (z : Int32).toInt = 1 := by rw [w_10_1]; decide
      refine lv_tableIn (tgt := 62) (off := 52) hx hb dX5_ofRound_10 (by rw [tx_10]; decide) (by rw [tx_10]; decide) (by rw [tx_10]; rfl) (by decide) ?_
      refine lv_aload_n hx hb dX5_ofRound_62 rfl (lv_at hl 0 rfl) ?_
      refine lv_iload_n hx hb dX5_ofRound_63 rfl (lv_at hl 1 rfl) ?_
      refine lv_iload_n hx hb dX5_ofRound_64 rfl (lv_at hl 2 rfl) ?_
      refine q_V (As := [.int (nI r1), .int z]) (rest := []) ⟨hx, hb, hml, hown, hts⟩ (c_X5_teamsOf l g d M (v_now V) K hc ho hK5 r1 z (by omega)) (cwV 2 hts gX5_ofRound_X5_teamsOf rfl rfl rfl (by decide +kernel) ⟨Nat.le_of_ble_eq_true rfl, Nat.le_of_ble_eq_true rfl⟩) q_B_blind (va_recv hK hP (ci := 4) (q0 := 0) rfl rfl) (q_B_of hP hK hN) rfl hl.1 rfl (Nat.le_of_ble_eq_true rfl) dX5_ofRound_65 (Nat.zero_le _) (Nat.zero_le _) ?_
      exact q_iret hx hb hr hlk dX5_ofRound_68 (by simp [ofrR, bI, grxS, tem_1, tem_2, tem_3, tem_4, cr1, hlo, c_4, w_10_0, w_10_1])
    by_cases w_10_2 : z = 2
    · skip
      have tx_10 : (z : Int32).toInt = 2 := by rw [w_10_2]; decide
      refine lv_tableIn (tgt := 62) (off := 52) hx hb dX5_ofRound_10 (by rw [tx_10]; decide) (by rw [tx_10]; decide) (by rw [tx_10]; rfl) (by decide) ?_
      refine lv_aload_n hx hb dX5_ofRound_62 rfl (lv_at hl 0 rfl) ?_
      refine lv_iload_n hx hb dX5_ofRound_63 rfl (lv_at hl 1 rfl) ?_
      refine lv_iload_n hx hb dX5_ofRound_64 rfl (lv_at hl 2 rfl) ?_
      refine q_V (As := [.int (nI r1), .int z]) (rest := []) ⟨hx, hb, hml, hown, hts⟩ (c_X5_teamsOf l g d M (v_now V) K hc ho hK5 r1 z (by omega)) (cwV 2 hts gX5_ofRound_X5_teamsOf rfl rfl rfl (by decide +kernel) ⟨Nat.le_of_ble_eq_true rfl, Nat.le_of_ble_eq_true rfl⟩) q_B_blind (va_recv hK hP (ci := 4) (q0 := 0) rfl rfl) (q_B_of hP hK hN) rfl hl.1 rfl (Nat.le_of_ble_eq_true rfl) dX5_ofRound_65 (Nat.zero_le _) (Nat.zero_le _) ?_
      exact q_iret hx hb hr hlk dX5_ofRound_68 (by simp [ofrR, bI, grxS, tem_1, tem_2, tem_3, tem_4, cr1, hlo, c_4, w_10_0, w_10_1, w_10_2])
    by_cases w_10_3 : z = 3
    · skip
      have tx_10 : (z : Int32).toInt = 3 := by rw [w_10_3]; decide
      refine lv_tableIn (tgt := 62) (off := 52) hx hb dX5_ofRound_10 (by rw [tx_10]; decide) (by rw [tx_10]; decide) (by rw [tx_10]; rfl) (by decide) ?_
      refine lv_aload_n hx hb dX5_ofRound_62 rfl (lv_at hl 0 rfl) ?_
      refine lv_iload_n hx hb dX5_ofRound_63 rfl (lv_at hl 1 rfl) ?_
      refine lv_iload_n hx hb dX5_ofRound_64 rfl (lv_at hl 2 rfl) ?_
      refine q_V (As := [.int (nI r1), .int z]) (rest := []) ⟨hx, hb, hml, hown, hts⟩ (c_X5_teamsOf l g d M (v_now V) K hc ho hK5 r1 z (by omega)) (cwV 2 hts gX5_ofRound_X5_teamsOf rfl rfl rfl (by decide +kernel) ⟨Nat.le_of_ble_eq_true rfl, Nat.le_of_ble_eq_true rfl⟩) q_B_blind (va_recv hK hP (ci := 4) (q0 := 0) rfl rfl) (q_B_of hP hK hN) rfl hl.1 rfl (Nat.le_of_ble_eq_true rfl) dX5_ofRound_65 (Nat.zero_le _) (Nat.zero_le _) ?_
      exact q_iret hx hb hr hlk dX5_ofRound_68 (by simp [ofrR, bI, grxS, tem_1, tem_2, tem_3, tem_4, cr1, hlo, c_4, w_10_0, w_10_1, w_10_2, w_10_3])
    by_cases w_10_4 : z = 4
    · skip
      have tx_10 : (z : Int32).toInt = 4 := by rw [w_10_4]; decide
      refine lv_tableIn (tgt := 62) (off := 52) hx hb dX5_ofRound_10 (by rw [tx_10]; decide) (by rw [tx_10]; decide) (by rw [tx_10]; rfl) (by decide) ?_
      refine lv_aload_n hx hb dX5_ofRound_62 rfl (lv_at hl 0 rfl) ?_
      refine lv_iload_n hx hb dX5_ofRound_63 rfl (lv_at hl 1 rfl) ?_
      refine lv_iload_n hx hb dX5_ofRound_64 rfl (lv_at hl 2 rfl) ?_
      refine q_V (As := [.int (nI r1), .int z]) (rest := []) ⟨hx, hb, hml, hown, hts⟩ (c_X5_teamsOf l g d M (v_now V) K hc ho hK5 r1 z (by omega)) (cwV 2 hts gX5_ofRound_X5_teamsOf rfl rfl rfl (by decide +kernel) ⟨Nat.le_of_ble_eq_true rfl, Nat.le_of_ble_eq_true rfl⟩) q_B_blind (va_recv hK hP (ci := 4) (q0 := 0) rfl rfl) (q_B_of hP hK hN) rfl hl.1 rfl (Nat.le_of_ble_eq_true rfl) dX5_ofRound_65 (Nat.zero_le _) (Nat.zero_le _) ?_
      exact q_iret hx hb hr hlk dX5_ofRound_68 (by simp [ofrR, bI, grxS, tem_1, tem_2, tem_3, tem_4, cr1, hlo, c_4, w_10_0, w_10_1, w_10_2, w_10_3, w_10_4])
    by_cases w_10_5 : z = 5
    · skip
      have tx_10 : (z : Int32).toInt = 5 := by rw [w_10_5]; decide
      refine lv_tableIn (tgt := 69) (off := 59) hx hb dX5_ofRound_10 (by rw [tx_10]; decide) (by rw [tx_10]; decide) (by rw [tx_10]; rfl) (by decide) ?_
      refine lv_aload_n hx hb dX5_ofRound_69 rfl (lv_at hl 0 rfl) ?_
      refine lv_iload_n hx hb dX5_ofRound_70 rfl (lv_at hl 1 rfl) ?_
      refine q_V (As := [.int (nI r1)]) (rest := []) ⟨hx, hb, hml, hown, hts⟩ (c_X5_greatest l g d M (v_now V) K hc ho hK5 r1 (by omega)) (cwV 1 hts gX5_ofRound_X5_greatest rfl rfl rfl (by decide +kernel) ⟨Nat.le_of_ble_eq_true rfl, Nat.le_of_ble_eq_true rfl⟩) q_B_blind (va_recv hK hP (ci := 4) (q0 := 0) rfl rfl) (q_B_of hP hK hN) rfl hl.1 rfl (Nat.le_of_ble_eq_true rfl) dX5_ofRound_71 (Nat.zero_le _) (Nat.zero_le _) ?_
      exact q_iret hx hb hr hlk dX5_ofRound_74 (by simp [ofrR, bI, grxS, tem_1, tem_2, tem_3, tem_4, cr1, hlo, c_4, w_10_0, w_10_1, w_10_2, w_10_3, w_10_4, w_10_5])
    have tw_10 := q_tab (n := 6) (lo := 0) (x := z) (by decide) (lt_s (p := fun k => ¬ z = nI (k + 0)) (lt_s (p := fun k => ¬ z = nI (k + 0)) (lt_s (p := fun k => ¬ z = nI (k + 0)) (lt_s (p := fun k => ¬ z = nI (k + 0)) (lt_s (p := fun k => ¬ z = nI (k + 0)) (lt_s (p := fun k => ¬ z = nI (k + 0)) (lt_0) w_10_0) w_10_1) w_10_2) w_10_3) w_10_4) w_10_5)
    refine lv_tableOut (tgt := 75) hx hb dX5_ofRound_10 (by omega) (by decide) ?_
    refine lv_bipush (v := (-2)) hx hb dX5_ofRound_75 (by decide) ?_
    exact q_iret hx hb hr hlk dX5_ofRound_77 (by simp [ofrR, bI, grxS, tem_1, tem_2, tem_3, tem_4, cr1, hlo, c_4, w_10_0, w_10_1, w_10_2, w_10_3, w_10_4, w_10_5])
  · skip
    have c_4 : (isRd y) = false := bI_eq c_4
    refine lv_iconst (v := (-1)) hx hb dX5_ofRound_7 (by decide) ?_
    exact q_iret hx hb hr hlk dX5_ofRound_8 (by simp [ofrR, bI, grxS, tem_1, tem_2, tem_3, tem_4, c_4])

set_option maxHeartbeats 4000000 in
set_option maxRecDepth 100000 in
theorem c_X5_sheet (l : Launch) (g : q_G) (d : Nat → Nat) (M : q_MV) (V : q_CV) (K : Nat) (hc : q_cp (v_now V) (m_s M)) (ho : q_ok K (v_now V)) (hK5 : K ≤ 512) (hpl : v_pl V ≤ 80) (hln : m_len M = v_pl V) (hpd : ∀ k, k < v_pl V → m_pad M k = v_pc V k) (hst : m_st M = v_hl V) (x : Int32) (y : Int32) (z : Int32) : q_PM l yX5_sheet wsX5_sheet { frames := 3, cells := 0, slots := 0, locals := 66 } [.ref (d 0), .int x, .int y, .int z] (q_B g (q_mdW g d M)) (.int (sheR V x y z)) := by
  refine q_pm (cc := cX5_sheet) (maxL := 6) (ret := (some .int)) (by decide) rfl (Nat.le_of_ble_eq_true rfl) ?_
  intro p e s m args below meth c ls hx hb hml hown hts hr hlk hB hl
  obtain ⟨hP, hK, hN⟩ := hB
  have hn10 := ok_n ho
  have fl_7 := hts (.fieldLink RX5 7 "PubQuizzesModel" "s" "[I") (by decide +kernel)
  have hi_X5 : ∀ w ∈ u_ws RX5 TX5 7, w ∈ wsX5_sheet := by decide +kernel
  have hl : lv_has ls 6 [(0, .ref (d 0)), (1, .int x), (2, .int y), (3, .int z)] := hl
  refine lv_aload_n hx hb dX5_sheet_0 rfl (lv_at hl 0 rfl) ?_
  refine lv_iload_n hx hb dX5_sheet_1 rfl (lv_at hl 1 rfl) ?_
  refine lv_iload_n hx hb dX5_sheet_2 rfl (lv_at hl 2 rfl) ?_
  refine q_V (As := [.int x, .int y]) (rest := []) ⟨hx, hb, hml, hown, hts⟩ (c_X5_isSheet l g d M (v_now V) K hc ho hK5 x y ) (cwV 2 hts gX5_sheet_X5_isSheet rfl rfl rfl (by decide +kernel) ⟨Nat.le_of_ble_eq_true rfl, Nat.le_of_ble_eq_true rfl⟩) q_B_blind (va_recv hK hP (ci := 4) (q0 := 0) rfl rfl) (q_B_of hP hK hN) rfl hl.1 rfl (Nat.le_of_ble_eq_true rfl) dX5_sheet_3 (Nat.zero_le _) (Nat.zero_le _) ?_
  refine lv_if_ne (tgt := 11) hx hb dX5_sheet_6 (by decide) (fun c_6 => ?_) (fun c_6 => ?_)
  · skip
    have c_6 : (shtS (v_now V) x y) = true := bI_ne c_6
    obtain ⟨t1, r1, ht1, ht1x, hr1, rfl, rfl, hh1⟩ := sht_of hn10 c_6
    have ct1 : tN (nI t1) = t1 := tN_n (by omega)
    have cr1 : tN (nI r1) = r1 := tN_n (by omega)
    have hit : isTm (v_now V) (nI t1) = true := isTm_t ht1 hn10
    have hir : isRd (nI r1) = true := isRd_t hr1
    refine lv_iload_n hx hb dX5_sheet_11 rfl (lv_at hl 1 rfl) ?_
    refine lv_iload_n hx hb dX5_sheet_12 rfl (lv_at hl 2 rfl) ?_
    refine q_S (As := [.int (nI t1), .int (nI r1)]) (rest := []) ⟨hx, hb, hml, hown, hts⟩ (c_X5_h l t1 r1 ) (va_cwS 2 hts gX5_sheet_X5_h rfl rfl rfl (by decide +kernel) ⟨Nat.le_of_ble_eq_true rfl, Nat.le_of_ble_eq_true rfl⟩) q_Blind_t (fun _ _ _ => trivial) rfl hl.1 rfl (Nat.le_of_ble_eq_true rfl) dX5_sheet_13 (Nat.zero_le _) (Nat.zero_le _) ?_
    refine lv_istore (lv' := [(4, .int (nI (136 + 15 * (t1 * 8 + r1)))), (0, .ref (d 0)), (1, .int (nI t1)), (2, .int (nI r1)), (3, .int z)]) hx hb dX5_sheet_16 hl (by decide) rfl (fun ls hl => ?_)
    refine lv_aload_n hx hb dX5_sheet_18 rfl (lv_at hl 1 rfl) ?_
    refine va_get (D := g.1) (ci := 4) (v := .ref (d 1)) (C := RX5) (T := TX5) (N := 7) hx hb hts hi_X5 hown hK hP 0 rfl rfl 0 (by decide) fl_7 (fun _ h9 => h9) rfl dX5_sheet_19 ?_
    refine lv_iload hx hb dX5_sheet_22 (lv_at hl 0 rfl) ?_
    refine lv_iconst (v := 1) hx hb dX5_sheet_24 (by decide) ?_
    refine lv_iadd hx hb dX5_sheet_25 ?_
    refine q_reI (show (((nI (136 + 15 * (t1 * 8 + r1))) + 1) : Int32) = nI (136 + 15 * (t1 * 8 + r1) + 1) from nI_add _ _) ?_
    refine q_iald (j := (136 + 15 * (t1 * 8 + r1) + 1)) hx hb hK hP 1 0 rfl rfl (by omega) (by decide) dX5_sheet_26 ?_
    refine q_reI (show (m_s M (136 + 15 * (t1 * 8 + r1) + 1) : Int32) = bI (tldS (v_now V) t1 r1) from cp_tld hc (t := t1) (r := r1) (by omega) (by omega)) ?_
    refine lv_iconst (v := 1) hx hb dX5_sheet_27 (by decide) ?_
    refine lv_icmp_ne (tgt := 35) hx hb dX5_sheet_28 (by decide) (fun c_28 => ?_) (fun c_28 => ?_)
    · skip
      have c_28 : (tldS (v_now V) t1 r1) = false := bI_n1 c_28
      have hm6 := tld_f c_28
      refine lv_iconst (v := 0) hx hb dX5_sheet_35 (by decide) ?_
      refine lv_istore (lv' := [(5, .int 0), (4, .int (nI (136 + 15 * (t1 * 8 + r1)))), (0, .ref (d 0)), (1, .int (nI t1)), (2, .int (nI r1)), (3, .int z)]) hx hb dX5_sheet_36 hl (by decide) rfl (fun ls hl => ?_)
      refine lv_iload_n hx hb dX5_sheet_38 rfl (lv_at hl 5 rfl) ?_
      by_cases w_39_0 : z = 0
      · skip
        have tx_39 : (z : Int32).toInt = 0 := by rw [w_39_0]; decide
        refine lv_tableIn (tgt := 72) (off := 33) hx hb dX5_sheet_39 (by rw [tx_39]; decide) (by rw [tx_39]; decide) (by rw [tx_39]; rfl) (by decide) ?_
        refine lv_iload hx hb dX5_sheet_72 (lv_at hl 0 rfl) ?_
        refine lv_if_eq (tgt := 92) hx hb dX5_sheet_74 (by decide) (fun c_74 => ?_) (fun c_74 => ?_)
        · skip
          refine lv_bipush (v := (-6)) hx hb dX5_sheet_92 (by decide) ?_
          exact q_iret hx hb hr hlk dX5_sheet_94 (by simp [sheR, ct1, cr1, hit, hir, hh1, c_6, hm6, c_28, w_39_0])
        · skip
          exact absurd c_74 (by decide)
      by_cases w_39_1 : z = 1
      · skip
        have tx_39 : (z : Int32).toInt = 1 := by rw [w_39_1]; decide
        refine lv_tableIn (tgt := 95) (off := 56) hx hb dX5_sheet_39 (by rw [tx_39]; decide) (by rw [tx_39]; decide) (by rw [tx_39]; rfl) (by decide) ?_
        refine lv_iload hx hb dX5_sheet_95 (lv_at hl 0 rfl) ?_
        refine lv_if_eq (tgt := 112) hx hb dX5_sheet_97 (by decide) (fun c_97 => ?_) (fun c_97 => ?_)
        · skip
          refine lv_bipush (v := (-6)) hx hb dX5_sheet_112 (by decide) ?_
          exact q_iret hx hb hr hlk dX5_sheet_114 (by simp [sheR, ct1, cr1, hit, hir, hh1, c_6, hm6, c_28, w_39_0, w_39_1])
        · skip
          exact absurd c_97 (by decide)
      by_cases w_39_2 : z = 2
      · skip
        have tx_39 : (z : Int32).toInt = 2 := by rw [w_39_2]; decide
        refine lv_tableIn (tgt := 115) (off := 76) hx hb dX5_sheet_39 (by rw [tx_39]; decide) (by rw [tx_39]; decide) (by rw [tx_39]; rfl) (by decide) ?_
        refine lv_aload_n hx hb dX5_sheet_115 rfl (lv_at hl 2 rfl) ?_
        refine lv_iload_n hx hb dX5_sheet_116 rfl (lv_at hl 3 rfl) ?_
        refine lv_iload_n hx hb dX5_sheet_117 rfl (lv_at hl 4 rfl) ?_
        refine q_V (As := [.int (nI t1), .int (nI r1)]) (rest := []) ⟨hx, hb, hml, hown, hts⟩ (c_X5_points l g d M (v_now V) K hc ho hK5 t1 r1 (by omega) (by omega)) (cwV 2 hts gX5_sheet_X5_points rfl rfl rfl (by decide +kernel) ⟨Nat.le_of_ble_eq_true rfl, Nat.le_of_ble_eq_true rfl⟩) q_B_blind (va_recv hK hP (ci := 4) (q0 := 0) rfl rfl) (q_B_of hP hK hN) rfl hl.1 rfl (Nat.le_of_ble_eq_true rfl) dX5_sheet_118 (Nat.zero_le _) (Nat.zero_le _) ?_
        refine lv_bipush (v := 100) hx hb dX5_sheet_121 (by decide) ?_
        refine lv_iadd hx hb dX5_sheet_123 ?_
        exact q_iret hx hb hr hlk dX5_sheet_124 (by simp [sheR, ct1, cr1, hit, hir, hh1, c_6, hm6, c_28, w_39_0, w_39_1, w_39_2])
      by_cases w_39_3 : z = 3
      · skip
        have tx_39 : (z : Int32).toInt = 3 := by rw [w_39_3]; decide
        refine lv_tableIn (tgt := 125) (off := 86) hx hb dX5_sheet_39 (by rw [tx_39]; decide) (by rw [tx_39]; decide) (by rw [tx_39]; rfl) (by decide) ?_
        refine lv_aload_n hx hb dX5_sheet_125 rfl (lv_at hl 2 rfl) ?_
        refine lv_iload_n hx hb dX5_sheet_126 rfl (lv_at hl 4 rfl) ?_
        refine q_V (As := [.int (nI r1)]) (rest := []) ⟨hx, hb, hml, hown, hts⟩ (c_X5_isOpen l g d M (v_now V) K hc ho hK5 r1 (by omega)) (cwV 1 hts gX5_sheet_X5_isOpen rfl rfl rfl (by decide +kernel) ⟨Nat.le_of_ble_eq_true rfl, Nat.le_of_ble_eq_true rfl⟩) q_B_blind (va_recv hK hP (ci := 4) (q0 := 0) rfl rfl) (q_B_of hP hK hN) rfl hl.1 rfl (Nat.le_of_ble_eq_true rfl) dX5_sheet_127 (Nat.zero_le _) (Nat.zero_le _) ?_
        refine lv_if_eq (tgt := 138) hx hb dX5_sheet_130 (by decide) (fun c_130 => ?_) (fun c_130 => ?_)
        · skip
          have c_130 : (isOp (v_now V) r1) = false := bI_eq c_130
          refine lv_aload_n hx hb dX5_sheet_138 rfl (lv_at hl 2 rfl) ?_
          refine lv_iload_n hx hb dX5_sheet_139 rfl (lv_at hl 3 rfl) ?_
          refine lv_iload_n hx hb dX5_sheet_140 rfl (lv_at hl 4 rfl) ?_
          refine q_V (As := [.int (nI t1), .int (nI r1)]) (rest := []) ⟨hx, hb, hml, hown, hts⟩ (c_X5_trueMark l g d M (v_now V) K hc ho hK5 t1 r1 (by omega) (by omega) (by omega) (by omega)) (cwV 2 hts gX5_sheet_X5_trueMark rfl rfl rfl (by decide +kernel) ⟨Nat.le_of_ble_eq_true rfl, Nat.le_of_ble_eq_true rfl⟩) q_B_blind (va_recv hK hP (ci := 4) (q0 := 0) rfl rfl) (q_B_of hP hK hN) rfl hl.1 rfl (Nat.le_of_ble_eq_true rfl) dX5_sheet_141 (Nat.zero_le _) (Nat.zero_le _) ?_
          refine lv_bipush (v := 100) hx hb dX5_sheet_144 (by decide) ?_
          refine lv_iadd hx hb dX5_sheet_146 ?_
          exact q_iret hx hb hr hlk dX5_sheet_147 (by simp [sheR, ct1, cr1, hit, hir, hh1, c_6, hm6, c_28, w_39_0, w_39_1, w_39_2, w_39_3, c_130])
        · skip
          have c_130 : (isOp (v_now V) r1) = true := bI_ne c_130
          refine lv_bipush (v := (-6)) hx hb dX5_sheet_133 (by decide) ?_
          refine lv_goto (tgt := 147) hx hb dX5_sheet_135 (by decide) ?_
          exact q_iret hx hb hr hlk dX5_sheet_147 (by simp [sheR, ct1, cr1, hit, hir, hh1, c_6, hm6, c_28, w_39_0, w_39_1, w_39_2, w_39_3, c_130])
      by_cases w_39_4 : z = 4
      · skip
        have tx_39 : (z : Int32).toInt = 4 := by rw [w_39_4]; decide
        refine lv_tableIn (tgt := 148) (off := 109) hx hb dX5_sheet_39 (by rw [tx_39]; decide) (by rw [tx_39]; decide) (by rw [tx_39]; rfl) (by decide) ?_
        refine lv_aload_n hx hb dX5_sheet_148 rfl (lv_at hl 2 rfl) ?_
        refine lv_iload hx hb dX5_sheet_149 (lv_at hl 1 rfl) ?_
        refine q_V (As := [.int (nI (136 + 15 * (t1 * 8 + r1)))]) (rest := []) ⟨hx, hb, hml, hown, hts⟩ (c_X5_answered l g d M (v_now V) K hc ho hK5 t1 r1 (by omega) (by omega) (by omega)) (cwV 1 hts gX5_sheet_X5_answered rfl rfl rfl (by decide +kernel) ⟨Nat.le_of_ble_eq_true rfl, Nat.le_of_ble_eq_true rfl⟩) q_B_blind (va_recv hK hP (ci := 4) (q0 := 0) rfl rfl) (q_B_of hP hK hN) rfl hl.1 rfl (Nat.le_of_ble_eq_true rfl) dX5_sheet_151 (Nat.zero_le _) (Nat.zero_le _) ?_
        exact q_iret hx hb hr hlk dX5_sheet_154 (by simp [sheR, ct1, cr1, hit, hir, hh1, c_6, hm6, c_28, w_39_0, w_39_1, w_39_2, w_39_3, w_39_4])
      have tw_39 := q_tab (n := 5) (lo := 0) (x := z) (by decide) (lt_s (p := fun k => ¬ z = nI (k + 0)) (lt_s (p := fun k => ¬ z = nI (k + 0)) (lt_s (p := fun k => ¬ z = nI (k + 0)) (lt_s (p := fun k => ¬ z = nI (k + 0)) (lt_s (p := fun k => ¬ z = nI (k + 0)) (lt_0) w_39_0) w_39_1) w_39_2) w_39_3) w_39_4)
      refine lv_tableOut (tgt := 155) hx hb dX5_sheet_39 (by omega) (by decide) ?_
      refine lv_bipush (v := (-2)) hx hb dX5_sheet_155 (by decide) ?_
      exact q_iret hx hb hr hlk dX5_sheet_157 (by simp [sheR, ct1, cr1, hit, hir, hh1, c_6, hm6, c_28, w_39_0, w_39_1, w_39_2, w_39_3, w_39_4])
    · skip
      have c_28 : (tldS (v_now V) t1 r1) = true := bI_e1 c_28
      refine lv_iconst (v := 1) hx hb dX5_sheet_31 (by decide) ?_
      refine lv_goto (tgt := 36) hx hb dX5_sheet_32 (by decide) ?_
      refine lv_istore (lv' := [(5, .int 1), (4, .int (nI (136 + 15 * (t1 * 8 + r1)))), (0, .ref (d 0)), (1, .int (nI t1)), (2, .int (nI r1)), (3, .int z)]) hx hb dX5_sheet_36 hl (by decide) rfl (fun ls hl => ?_)
      refine lv_iload_n hx hb dX5_sheet_38 rfl (lv_at hl 5 rfl) ?_
      by_cases w_39_0 : z = 0
      · skip
        have tx_39 : (z : Int32).toInt = 0 := by rw [w_39_0]; decide
        refine lv_tableIn (tgt := 72) (off := 33) hx hb dX5_sheet_39 (by rw [tx_39]; decide) (by rw [tx_39]; decide) (by rw [tx_39]; rfl) (by decide) ?_
        refine lv_iload hx hb dX5_sheet_72 (lv_at hl 0 rfl) ?_
        refine lv_if_eq (tgt := 92) hx hb dX5_sheet_74 (by decide) (fun c_74 => ?_) (fun c_74 => ?_)
        · skip
          exact absurd c_74 (by decide)
        · skip
          refine lv_aload_n hx hb dX5_sheet_77 rfl (lv_at hl 2 rfl) ?_
          refine va_get (D := g.1) (ci := 4) (v := .ref (d 1)) (C := RX5) (T := TX5) (N := 7) hx hb hts hi_X5 hown hK hP 0 rfl rfl 0 (by decide) fl_7 (fun _ h9 => h9) rfl dX5_sheet_78 ?_
          refine lv_iload hx hb dX5_sheet_81 (lv_at hl 1 rfl) ?_
          refine lv_iconst (v := 2) hx hb dX5_sheet_83 (by decide) ?_
          refine lv_iadd hx hb dX5_sheet_84 ?_
          refine q_reI (show (((nI (136 + 15 * (t1 * 8 + r1))) + 2) : Int32) = nI (136 + 15 * (t1 * 8 + r1) + 2) from nI_add _ _) ?_
          refine q_iald (j := (136 + 15 * (t1 * 8 + r1) + 2)) hx hb hK hP 1 0 rfl rfl (by omega) (by decide) dX5_sheet_85 ?_
          refine q_reI (show (m_s M (136 + 15 * (t1 * 8 + r1) + 2) : Int32) = s_mar (v_now V) (t1 * 8 + r1) from cp_mar hc (t := t1) (r := r1) (by omega) (by omega) (by assumption)) ?_
          refine lv_bipush (v := 100) hx hb dX5_sheet_86 (by decide) ?_
          refine lv_iadd hx hb dX5_sheet_88 ?_
          refine lv_goto (tgt := 94) hx hb dX5_sheet_89 (by decide) ?_
          exact q_iret hx hb hr hlk dX5_sheet_94 (by simp [sheR, ct1, cr1, hit, hir, hh1, c_6, c_28, w_39_0])
      by_cases w_39_1 : z = 1
      · skip
        have tx_39 : (z : Int32).toInt = 1 := by rw [w_39_1]; decide
        refine lv_tableIn (tgt := 95) (off := 56) hx hb dX5_sheet_39 (by rw [tx_39]; decide) (by rw [tx_39]; decide) (by rw [tx_39]; rfl) (by decide) ?_
        refine lv_iload hx hb dX5_sheet_95 (lv_at hl 0 rfl) ?_
        refine lv_if_eq (tgt := 112) hx hb dX5_sheet_97 (by decide) (fun c_97 => ?_) (fun c_97 => ?_)
        · skip
          exact absurd c_97 (by decide)
        · skip
          refine lv_aload_n hx hb dX5_sheet_100 rfl (lv_at hl 2 rfl) ?_
          refine va_get (D := g.1) (ci := 4) (v := .ref (d 1)) (C := RX5) (T := TX5) (N := 7) hx hb hts hi_X5 hown hK hP 0 rfl rfl 0 (by decide) fl_7 (fun _ h9 => h9) rfl dX5_sheet_101 ?_
          refine lv_iload hx hb dX5_sheet_104 (lv_at hl 1 rfl) ?_
          refine lv_iconst (v := 3) hx hb dX5_sheet_106 (by decide) ?_
          refine lv_iadd hx hb dX5_sheet_107 ?_
          refine q_reI (show (((nI (136 + 15 * (t1 * 8 + r1))) + 3) : Int32) = nI (136 + 15 * (t1 * 8 + r1) + 3) from nI_add _ _) ?_
          refine q_iald (j := (136 + 15 * (t1 * 8 + r1) + 3)) hx hb hK hP 1 0 rfl rfl (by omega) (by decide) dX5_sheet_108 ?_
          refine q_reI (show (m_s M (136 + 15 * (t1 * 8 + r1) + 3) : Int32) = s_mkr (v_now V) (t1 * 8 + r1) from cp_mkr hc (t := t1) (r := r1) (by omega) (by omega) (by assumption)) ?_
          refine lv_goto (tgt := 114) hx hb dX5_sheet_109 (by decide) ?_
          exact q_iret hx hb hr hlk dX5_sheet_114 (by simp [sheR, ct1, cr1, hit, hir, hh1, c_6, c_28, w_39_0, w_39_1])
      by_cases w_39_2 : z = 2
      · skip
        have tx_39 : (z : Int32).toInt = 2 := by rw [w_39_2]; decide
        refine lv_tableIn (tgt := 115) (off := 76) hx hb dX5_sheet_39 (by rw [tx_39]; decide) (by rw [tx_39]; decide) (by rw [tx_39]; rfl) (by decide) ?_
        refine lv_aload_n hx hb dX5_sheet_115 rfl (lv_at hl 2 rfl) ?_
        refine lv_iload_n hx hb dX5_sheet_116 rfl (lv_at hl 3 rfl) ?_
        refine lv_iload_n hx hb dX5_sheet_117 rfl (lv_at hl 4 rfl) ?_
        refine q_V (As := [.int (nI t1), .int (nI r1)]) (rest := []) ⟨hx, hb, hml, hown, hts⟩ (c_X5_points l g d M (v_now V) K hc ho hK5 t1 r1 (by omega) (by omega)) (cwV 2 hts gX5_sheet_X5_points rfl rfl rfl (by decide +kernel) ⟨Nat.le_of_ble_eq_true rfl, Nat.le_of_ble_eq_true rfl⟩) q_B_blind (va_recv hK hP (ci := 4) (q0 := 0) rfl rfl) (q_B_of hP hK hN) rfl hl.1 rfl (Nat.le_of_ble_eq_true rfl) dX5_sheet_118 (Nat.zero_le _) (Nat.zero_le _) ?_
        refine lv_bipush (v := 100) hx hb dX5_sheet_121 (by decide) ?_
        refine lv_iadd hx hb dX5_sheet_123 ?_
        exact q_iret hx hb hr hlk dX5_sheet_124 (by simp [sheR, ct1, cr1, hit, hir, hh1, c_6, c_28, w_39_0, w_39_1, w_39_2])
      by_cases w_39_3 : z = 3
      · skip
        have tx_39 : (z : Int32).toInt = 3 := by rw [w_39_3]; decide
        refine lv_tableIn (tgt := 125) (off := 86) hx hb dX5_sheet_39 (by rw [tx_39]; decide) (by rw [tx_39]; decide) (by rw [tx_39]; rfl) (by decide) ?_
        refine lv_aload_n hx hb dX5_sheet_125 rfl (lv_at hl 2 rfl) ?_
        refine lv_iload_n hx hb dX5_sheet_126 rfl (lv_at hl 4 rfl) ?_
        refine q_V (As := [.int (nI r1)]) (rest := []) ⟨hx, hb, hml, hown, hts⟩ (c_X5_isOpen l g d M (v_now V) K hc ho hK5 r1 (by omega)) (cwV 1 hts gX5_sheet_X5_isOpen rfl rfl rfl (by decide +kernel) ⟨Nat.le_of_ble_eq_true rfl, Nat.le_of_ble_eq_true rfl⟩) q_B_blind (va_recv hK hP (ci := 4) (q0 := 0) rfl rfl) (q_B_of hP hK hN) rfl hl.1 rfl (Nat.le_of_ble_eq_true rfl) dX5_sheet_127 (Nat.zero_le _) (Nat.zero_le _) ?_
        refine lv_if_eq (tgt := 138) hx hb dX5_sheet_130 (by decide) (fun c_130 => ?_) (fun c_130 => ?_)
        · skip
          have c_130 : (isOp (v_now V) r1) = false := bI_eq c_130
          refine lv_aload_n hx hb dX5_sheet_138 rfl (lv_at hl 2 rfl) ?_
          refine lv_iload_n hx hb dX5_sheet_139 rfl (lv_at hl 3 rfl) ?_
          refine lv_iload_n hx hb dX5_sheet_140 rfl (lv_at hl 4 rfl) ?_
          refine q_V (As := [.int (nI t1), .int (nI r1)]) (rest := []) ⟨hx, hb, hml, hown, hts⟩ (c_X5_trueMark l g d M (v_now V) K hc ho hK5 t1 r1 (by omega) (by omega) (by omega) (by omega)) (cwV 2 hts gX5_sheet_X5_trueMark rfl rfl rfl (by decide +kernel) ⟨Nat.le_of_ble_eq_true rfl, Nat.le_of_ble_eq_true rfl⟩) q_B_blind (va_recv hK hP (ci := 4) (q0 := 0) rfl rfl) (q_B_of hP hK hN) rfl hl.1 rfl (Nat.le_of_ble_eq_true rfl) dX5_sheet_141 (Nat.zero_le _) (Nat.zero_le _) ?_
          refine lv_bipush (v := 100) hx hb dX5_sheet_144 (by decide) ?_
          refine lv_iadd hx hb dX5_sheet_146 ?_
          exact q_iret hx hb hr hlk dX5_sheet_147 (by simp [sheR, ct1, cr1, hit, hir, hh1, c_6, c_28, w_39_0, w_39_1, w_39_2, w_39_3, c_130])
        · skip
          have c_130 : (isOp (v_now V) r1) = true := bI_ne c_130
          refine lv_bipush (v := (-6)) hx hb dX5_sheet_133 (by decide) ?_
          refine lv_goto (tgt := 147) hx hb dX5_sheet_135 (by decide) ?_
          exact q_iret hx hb hr hlk dX5_sheet_147 (by simp [sheR, ct1, cr1, hit, hir, hh1, c_6, c_28, w_39_0, w_39_1, w_39_2, w_39_3, c_130])
      by_cases w_39_4 : z = 4
      · skip
        have tx_39 : (z : Int32).toInt = 4 := by rw [w_39_4]; decide
        refine lv_tableIn (tgt := 148) (off := 109) hx hb dX5_sheet_39 (by rw [tx_39]; decide) (by rw [tx_39]; decide) (by rw [tx_39]; rfl) (by decide) ?_
        refine lv_aload_n hx hb dX5_sheet_148 rfl (lv_at hl 2 rfl) ?_
        refine lv_iload hx hb dX5_sheet_149 (lv_at hl 1 rfl) ?_
        refine q_V (As := [.int (nI (136 + 15 * (t1 * 8 + r1)))]) (rest := []) ⟨hx, hb, hml, hown, hts⟩ (c_X5_answered l g d M (v_now V) K hc ho hK5 t1 r1 (by omega) (by omega) (by omega)) (cwV 1 hts gX5_sheet_X5_answered rfl rfl rfl (by decide +kernel) ⟨Nat.le_of_ble_eq_true rfl, Nat.le_of_ble_eq_true rfl⟩) q_B_blind (va_recv hK hP (ci := 4) (q0 := 0) rfl rfl) (q_B_of hP hK hN) rfl hl.1 rfl (Nat.le_of_ble_eq_true rfl) dX5_sheet_151 (Nat.zero_le _) (Nat.zero_le _) ?_
        exact q_iret hx hb hr hlk dX5_sheet_154 (by simp [sheR, ct1, cr1, hit, hir, hh1, c_6, c_28, w_39_0, w_39_1, w_39_2, w_39_3, w_39_4])
      have tw_39 := q_tab (n := 5) (lo := 0) (x := z) (by decide) (lt_s (p := fun k => ¬ z = nI (k + 0)) (lt_s (p := fun k => ¬ z = nI (k + 0)) (lt_s (p := fun k => ¬ z = nI (k + 0)) (lt_s (p := fun k => ¬ z = nI (k + 0)) (lt_s (p := fun k => ¬ z = nI (k + 0)) (lt_0) w_39_0) w_39_1) w_39_2) w_39_3) w_39_4)
      refine lv_tableOut (tgt := 155) hx hb dX5_sheet_39 (by omega) (by decide) ?_
      refine lv_bipush (v := (-2)) hx hb dX5_sheet_155 (by decide) ?_
      exact q_iret hx hb hr hlk dX5_sheet_157 (by simp [sheR, ct1, cr1, hit, hir, hh1, c_6, c_28, w_39_0, w_39_1, w_39_2, w_39_3, w_39_4])
  · skip
    have c_6 : (shtS (v_now V) x y) = false := bI_eq c_6
    refine lv_iconst (v := (-1)) hx hb dX5_sheet_9 (by decide) ?_
    exact q_iret hx hb hr hlk dX5_sheet_10 ((she_f c_6).symm)

set_option maxHeartbeats 4000000 in
set_option maxRecDepth 100000 in
theorem c_X5_answer (l : Launch) (g : q_G) (d : Nat → Nat) (M : q_MV) (V : q_CV) (K : Nat) (hc : q_cp (v_now V) (m_s M)) (ho : q_ok K (v_now V)) (hK5 : K ≤ 512) (hpl : v_pl V ≤ 80) (hln : m_len M = v_pl V) (hpd : ∀ k, k < v_pl V → m_pad M k = v_pc V k) (hst : m_st M = v_hl V) (x : Int32) (y : Int32) (z : Int32) : q_PM l yX5_answer wsX5_answer { frames := 3, cells := 0, slots := 0, locals := 65 } [.ref (d 0), .int x, .int y, .int z] (q_B g (q_mdW g d M)) (.int (anwR V x y z)) := by
  refine q_pm (cc := cX5_answer) (maxL := 6) (ret := (some .int)) (by decide) rfl (Nat.le_of_ble_eq_true rfl) ?_
  intro p e s m args below meth c ls hx hb hml hown hts hr hlk hB hl
  obtain ⟨hP, hK, hN⟩ := hB
  have hn10 := ok_n ho
  have fl_7 := hts (.fieldLink RX5 7 "PubQuizzesModel" "s" "[I") (by decide +kernel)
  have hi_X5 : ∀ w ∈ u_ws RX5 TX5 7, w ∈ wsX5_answer := by decide +kernel
  have hl : lv_has ls 6 [(0, .ref (d 0)), (1, .int x), (2, .int y), (3, .int z)] := hl
  refine lv_iload_n hx hb dX5_answer_0 rfl (lv_at hl 1 rfl) ?_
  refine lv_bipush (v := (-6)) hx hb dX5_answer_1 (by decide) ?_
  refine lv_icmp_ne (tgt := 29) hx hb dX5_answer_3 (by decide) (fun c_3 => ?_) (fun c_3 => ?_)
  · skip
    refine lv_aload_n hx hb dX5_answer_29 rfl (lv_at hl 0 rfl) ?_
    refine lv_iload_n hx hb dX5_answer_30 rfl (lv_at hl 1 rfl) ?_
    refine lv_iload_n hx hb dX5_answer_31 rfl (lv_at hl 2 rfl) ?_
    refine q_V (As := [.int x, .int y]) (rest := []) ⟨hx, hb, hml, hown, hts⟩ (c_X5_isSheet l g d M (v_now V) K hc ho hK5 x y ) (cwV 2 hts gX5_answer_X5_isSheet rfl rfl rfl (by decide +kernel) ⟨Nat.le_of_ble_eq_true rfl, Nat.le_of_ble_eq_true rfl⟩) q_B_blind (va_recv hK hP (ci := 4) (q0 := 0) rfl rfl) (q_B_of hP hK hN) rfl hl.1 rfl (Nat.le_of_ble_eq_true rfl) dX5_answer_32 (Nat.zero_le _) (Nat.zero_le _) ?_
    refine lv_istore (lv' := [(4, .int (bI (shtS (v_now V) x y))), (0, .ref (d 0)), (1, .int x), (2, .int y), (3, .int z)]) hx hb dX5_answer_35 hl (by decide) rfl (fun ls hl => ?_)
    refine lv_iload hx hb dX5_answer_37 (lv_at hl 0 rfl) ?_
    refine lv_if_ne (tgt := 44) hx hb dX5_answer_39 (by decide) (fun c_39 => ?_) (fun c_39 => ?_)
    · skip
      have c_39 : (shtS (v_now V) x y) = true := bI_ne c_39
      obtain ⟨t1, r1, ht1, ht1x, hr1, rfl, rfl, hh1⟩ := sht_of hn10 c_39
      have ct1 : tN (nI t1) = t1 := tN_n (by omega)
      have cr1 : tN (nI r1) = r1 := tN_n (by omega)
      have hit : isTm (v_now V) (nI t1) = true := isTm_t ht1 hn10
      have hir : isRd (nI r1) = true := isRd_t hr1
      refine lv_iload_n hx hb dX5_answer_44 rfl (lv_at hl 4 rfl) ?_
      refine lv_iconst (v := 0) hx hb dX5_answer_45 (by decide) ?_
      refine lv_bipush (v := 9) hx hb dX5_answer_46 (by decide) ?_
      refine q_S (As := [.int z, .int 0, .int 9]) (rest := []) ⟨hx, hb, hml, hown, hts⟩ (c_X5_in l z 0 9 ) (va_cwS 3 hts gX5_answer_X5_in rfl rfl rfl (by decide +kernel) ⟨Nat.le_of_ble_eq_true rfl, Nat.le_of_ble_eq_true rfl⟩) q_Blind_t (fun _ _ _ => trivial) rfl hl.1 rfl (Nat.le_of_ble_eq_true rfl) dX5_answer_48 (Nat.zero_le _) (Nat.zero_le _) ?_
      refine lv_if_ne (tgt := 57) hx hb dX5_answer_51 (by decide) (fun c_51 => ?_) (fun c_51 => ?_)
      · skip
        have c_51 : (inR z 0 9) = true := bI_ne c_51
        obtain ⟨k1, hk1, rfl⟩ := inQ_t c_51
        have ck1 : tN (nI k1) = k1 := tN_n (by omega)
        have hk1a : ¬ nI k1 < 0 := nI_pos (by omega)
        have hk1n : ¬ (10 : Int32) ≤ nI k1 := fun q => by have := (nI_leI (a := 10) (by decide) (by omega)).mp q; omega
        refine lv_iload_n hx hb dX5_answer_57 rfl (lv_at hl 2 rfl) ?_
        refine lv_bipush (v := (-6)) hx hb dX5_answer_58 (by decide) ?_
        refine lv_icmp_ne (tgt := 79) hx hb dX5_answer_60 (by decide) (fun c_60 => ?_) (fun c_60 => ?_)
        · skip
          refine lv_aload_n hx hb dX5_answer_79 rfl (lv_at hl 1 rfl) ?_
          refine va_get (D := g.1) (ci := 4) (v := .ref (d 1)) (C := RX5) (T := TX5) (N := 7) hx hb hts hi_X5 hown hK hP 0 rfl rfl 0 (by decide) fl_7 (fun _ h9 => h9) rfl dX5_answer_80 ?_
          refine lv_iload_n hx hb dX5_answer_83 rfl (lv_at hl 2 rfl) ?_
          refine lv_iload_n hx hb dX5_answer_84 rfl (lv_at hl 3 rfl) ?_
          refine q_S (As := [.int (nI t1), .int (nI r1)]) (rest := [.ref (d 1)]) ⟨hx, hb, hml, hown, hts⟩ (c_X5_h l t1 r1 ) (va_cwS 2 hts gX5_answer_X5_h rfl rfl rfl (by decide +kernel) ⟨Nat.le_of_ble_eq_true rfl, Nat.le_of_ble_eq_true rfl⟩) q_Blind_t (fun _ _ _ => trivial) rfl hl.1 rfl (Nat.le_of_ble_eq_true rfl) dX5_answer_85 (Nat.zero_le _) (Nat.zero_le _) ?_
          refine lv_iconst (v := 5) hx hb dX5_answer_88 (by decide) ?_
          refine lv_iadd hx hb dX5_answer_89 ?_
          refine q_reI (show (((nI (136 + 15 * (t1 * 8 + r1))) + 5) : Int32) = nI (136 + 15 * (t1 * 8 + r1) + 5) from nI_add _ _) ?_
          refine lv_iload_n hx hb dX5_answer_90 rfl (lv_at hl 4 rfl) ?_
          refine lv_iadd hx hb dX5_answer_91 ?_
          refine q_reI (show (((nI (136 + 15 * (t1 * 8 + r1) + 5)) + (nI k1)) : Int32) = nI (136 + 15 * (t1 * 8 + r1) + 5 + k1) from nI_add _ _) ?_
          refine q_iald (j := (136 + 15 * (t1 * 8 + r1) + 5 + k1)) hx hb hK hP 1 0 rfl rfl (by omega) (by decide) dX5_answer_92 ?_
          refine q_reI (show (m_s M (136 + 15 * (t1 * 8 + r1) + 5 + k1) : Int32) = anI (sgn (s_she (v_now V) (t1 * 8 + r1)) k1) from cp_ans hc (k := k1) (t := t1) (r := r1) (by omega) (by omega) (by assumption) (by omega)) ?_
          have hX := ok_she ho (t := t1) (r := r1) (k := k1) (by omega) (by omega) hh1 (by omega)
          refine q_reI (show (anI (sgn (s_she (v_now V) (t1 * 8 + r1)) k1) : Int32) = anI (sgn (s_she (v_now V) (t1 * 8 + r1)) k1) from rfl) ?_
          refine lv_istore (lv' := [(5, .int (anI (sgn (s_she (v_now V) (t1 * 8 + r1)) k1))), (4, .int (bI (shtS (v_now V) (nI t1) (nI r1)))), (0, .ref (d 0)), (1, .int (nI t1)), (2, .int (nI r1)), (3, .int (nI k1))]) hx hb dX5_answer_93 hl (by decide) rfl (fun ls hl => ?_)
          refine lv_iload hx hb dX5_answer_95 (lv_at hl 0 rfl) ?_
          refine lv_if_ge (tgt := 105) hx hb dX5_answer_97 (by decide) (fun c_97 => ?_) (fun c_97 => ?_)
          · skip
            have hY := an_ge hX c_97
            have hY1 := hY.1
            have hY2 := hY.2
            refine lv_iload hx hb dX5_answer_105 (lv_at hl 0 rfl) ?_
            exact q_iret hx hb hr hlk dX5_answer_107 (by simp [anwR, anwD, c_3, ct1, cr1, hit, hir, hh1, c_39, ck1, hk1a, hk1n, c_51, hY1, hY2, c_97])
          · skip
            have hY := an_lt hX c_97
            refine lv_bipush (v := (-6)) hx hb dX5_answer_100 (by decide) ?_
            refine lv_goto (tgt := 107) hx hb dX5_answer_102 (by decide) ?_
            exact q_iret hx hb hr hlk dX5_answer_107 (by simp [anwR, anwD, c_3, ct1, cr1, hit, hir, hh1, c_39, ck1, hk1a, hk1n, c_51, hY, c_97])
        · skip
          exact absurd c_60 c_3
      · skip
        have c_51 : (inR z 0 9) = false := bI_eq c_51
        have hq := inQ_f c_51
        refine lv_bipush (v := (-2)) hx hb dX5_answer_54 (by decide) ?_
        exact q_iret hx hb hr hlk dX5_answer_56 (by rcases hq with q | q <;> simp [anwR, q, c_3, ct1, cr1, hit, hir, hh1, c_39, c_51])
    · skip
      have c_39 : (shtS (v_now V) x y) = false := bI_eq c_39
      refine lv_iconst (v := (-1)) hx hb dX5_answer_42 (by decide) ?_
      exact q_iret hx hb hr hlk dX5_answer_43 (by first | (simp [anwR, c_3, c_39]; done) | (rw [anw_f c_3 c_39]))
  · skip
    refine lv_iload_n hx hb dX5_answer_6 rfl (lv_at hl 2 rfl) ?_
    refine q_S (As := [.int y]) (rest := []) ⟨hx, hb, hml, hown, hts⟩ (c_X5_isRound l y ) (va_cwS 1 hts gX5_answer_X5_isRound rfl rfl rfl (by decide +kernel) ⟨Nat.le_of_ble_eq_true rfl, Nat.le_of_ble_eq_true rfl⟩) q_Blind_t (fun _ _ _ => trivial) rfl hl.1 rfl (Nat.le_of_ble_eq_true rfl) dX5_answer_7 (Nat.zero_le _) (Nat.zero_le _) ?_
    refine lv_if_eq (tgt := 25) hx hb dX5_answer_10 (by decide) (fun c_10 => ?_) (fun c_10 => ?_)
    · skip
      have c_10 : (isRd y) = false := bI_eq c_10
      refine lv_iconst (v := 0) hx hb dX5_answer_25 (by decide) ?_
      refine lv_goto (tgt := 35) hx hb dX5_answer_26 (by decide) ?_
      refine lv_istore (lv' := [(4, .int 0), (0, .ref (d 0)), (1, .int x), (2, .int y), (3, .int z)]) hx hb dX5_answer_35 hl (by decide) rfl (fun ls hl => ?_)
      refine lv_iload hx hb dX5_answer_37 (lv_at hl 0 rfl) ?_
      refine lv_if_ne (tgt := 44) hx hb dX5_answer_39 (by decide) (fun c_39 => ?_) (fun c_39 => ?_)
      · skip
        exact absurd c_39 (by decide)
      · skip
        refine lv_iconst (v := (-1)) hx hb dX5_answer_42 (by decide) ?_
        exact q_iret hx hb hr hlk dX5_answer_43 (by first | (simp [anwR, c_3, c_10]; done) | (rw [anw_f c_3 c_39]))
    · skip
      have c_10 : (isRd y) = true := bI_ne c_10
      obtain ⟨r1, hr1, rfl⟩ := isRd_of c_10
      have cr1 : tN (nI r1) = r1 := tN_n (by omega)
      refine lv_aload_n hx hb dX5_answer_13 rfl (lv_at hl 0 rfl) ?_
      refine lv_iload_n hx hb dX5_answer_14 rfl (lv_at hl 2 rfl) ?_
      refine q_V (As := [.int (nI r1)]) (rest := []) ⟨hx, hb, hml, hown, hts⟩ (c_X5_isOpen l g d M (v_now V) K hc ho hK5 r1 (by omega)) (cwV 1 hts gX5_answer_X5_isOpen rfl rfl rfl (by decide +kernel) ⟨Nat.le_of_ble_eq_true rfl, Nat.le_of_ble_eq_true rfl⟩) q_B_blind (va_recv hK hP (ci := 4) (q0 := 0) rfl rfl) (q_B_of hP hK hN) rfl hl.1 rfl (Nat.le_of_ble_eq_true rfl) dX5_answer_15 (Nat.zero_le _) (Nat.zero_le _) ?_
      refine lv_if_ne (tgt := 25) hx hb dX5_answer_18 (by decide) (fun c_18 => ?_) (fun c_18 => ?_)
      · skip
        have c_18 : (isOp (v_now V) r1) = true := bI_ne c_18
        refine lv_iconst (v := 0) hx hb dX5_answer_25 (by decide) ?_
        refine lv_goto (tgt := 35) hx hb dX5_answer_26 (by decide) ?_
        refine lv_istore (lv' := [(4, .int 0), (0, .ref (d 0)), (1, .int x), (2, .int (nI r1)), (3, .int z)]) hx hb dX5_answer_35 hl (by decide) rfl (fun ls hl => ?_)
        refine lv_iload hx hb dX5_answer_37 (lv_at hl 0 rfl) ?_
        refine lv_if_ne (tgt := 44) hx hb dX5_answer_39 (by decide) (fun c_39 => ?_) (fun c_39 => ?_)
        · skip
          exact absurd c_39 (by decide)
        · skip
          refine lv_iconst (v := (-1)) hx hb dX5_answer_42 (by decide) ?_
          exact q_iret hx hb hr hlk dX5_answer_43 (by first | (simp [anwR, c_3, cr1, c_10, c_18]; done) | (rw [anw_f c_3 c_39]))
      · skip
        have c_18 : (isOp (v_now V) r1) = false := bI_eq c_18
        refine lv_iconst (v := 1) hx hb dX5_answer_21 (by decide) ?_
        refine lv_goto (tgt := 35) hx hb dX5_answer_22 (by decide) ?_
        refine lv_istore (lv' := [(4, .int 1), (0, .ref (d 0)), (1, .int x), (2, .int (nI r1)), (3, .int z)]) hx hb dX5_answer_35 hl (by decide) rfl (fun ls hl => ?_)
        refine lv_iload hx hb dX5_answer_37 (lv_at hl 0 rfl) ?_
        refine lv_if_ne (tgt := 44) hx hb dX5_answer_39 (by decide) (fun c_39 => ?_) (fun c_39 => ?_)
        · skip
          refine lv_iload_n hx hb dX5_answer_44 rfl (lv_at hl 4 rfl) ?_
          refine lv_iconst (v := 0) hx hb dX5_answer_45 (by decide) ?_
          refine lv_bipush (v := 9) hx hb dX5_answer_46 (by decide) ?_
          refine q_S (As := [.int z, .int 0, .int 9]) (rest := []) ⟨hx, hb, hml, hown, hts⟩ (c_X5_in l z 0 9 ) (va_cwS 3 hts gX5_answer_X5_in rfl rfl rfl (by decide +kernel) ⟨Nat.le_of_ble_eq_true rfl, Nat.le_of_ble_eq_true rfl⟩) q_Blind_t (fun _ _ _ => trivial) rfl hl.1 rfl (Nat.le_of_ble_eq_true rfl) dX5_answer_48 (Nat.zero_le _) (Nat.zero_le _) ?_
          refine lv_if_ne (tgt := 57) hx hb dX5_answer_51 (by decide) (fun c_51 => ?_) (fun c_51 => ?_)
          · skip
            have c_51 : (inR z 0 9) = true := bI_ne c_51
            obtain ⟨k1, hk1, rfl⟩ := inQ_t c_51
            have ck1 : tN (nI k1) = k1 := tN_n (by omega)
            have hk1a : ¬ nI k1 < 0 := nI_pos (by omega)
            have hk1n : ¬ (10 : Int32) ≤ nI k1 := fun q => by have := (nI_leI (a := 10) (by decide) (by omega)).mp q; omega
            refine lv_iload_n hx hb dX5_answer_57 rfl (lv_at hl 2 rfl) ?_
            refine lv_bipush (v := (-6)) hx hb dX5_answer_58 (by decide) ?_
            refine lv_icmp_ne (tgt := 79) hx hb dX5_answer_60 (by decide) (fun c_60 => ?_) (fun c_60 => ?_)
            · skip
              exact absurd c_3 c_60
            · skip
              refine lv_aload_n hx hb dX5_answer_63 rfl (lv_at hl 1 rfl) ?_
              refine va_get (D := g.1) (ci := 4) (v := .ref (d 1)) (C := RX5) (T := TX5) (N := 7) hx hb hts hi_X5 hown hK hP 0 rfl rfl 0 (by decide) fl_7 (fun _ h9 => h9) rfl dX5_answer_64 ?_
              refine lv_iload_n hx hb dX5_answer_67 rfl (lv_at hl 3 rfl) ?_
              refine q_S (As := [.int (nI r1)]) (rest := [.ref (d 1)]) ⟨hx, hb, hml, hown, hts⟩ (c_X5_r l r1 ) (va_cwS 1 hts gX5_answer_X5_r rfl rfl rfl (by decide +kernel) ⟨Nat.le_of_ble_eq_true rfl, Nat.le_of_ble_eq_true rfl⟩) q_Blind_t (fun _ _ _ => trivial) rfl hl.1 rfl (Nat.le_of_ble_eq_true rfl) dX5_answer_68 (Nat.zero_le _) (Nat.zero_le _) ?_
              refine lv_iconst (v := 1) hx hb dX5_answer_71 (by decide) ?_
              refine lv_iadd hx hb dX5_answer_72 ?_
              refine q_reI (show (((nI (8 + 11 * r1)) + 1) : Int32) = nI (8 + 11 * r1 + 1) from nI_add _ _) ?_
              refine lv_iload_n hx hb dX5_answer_73 rfl (lv_at hl 4 rfl) ?_
              refine lv_iadd hx hb dX5_answer_74 ?_
              refine q_reI (show (((nI (8 + 11 * r1 + 1)) + (nI k1)) : Int32) = nI (8 + 11 * r1 + 1 + k1) from nI_add _ _) ?_
              refine q_iald (j := (8 + 11 * r1 + 1 + k1)) hx hb hK hP 1 0 rfl rfl (by omega) (by decide) dX5_answer_75 ?_
              refine q_reI (show (m_s M (8 + 11 * r1 + 1 + k1) : Int32) = sgn (s_key (v_now V) r1) k1 from cp_key hc (r := r1) (k := k1) (by omega) (by assumption) (by omega)) ?_
              refine lv_goto (tgt := 93) hx hb dX5_answer_76 (by decide) ?_
              obtain ⟨d1, hd1, ed1⟩ := ok_key ho (r := r1) (k := k1) (by omega) (by assumption) (by omega)
              have hX : sgn (s_key (v_now V) r1) k1 = 15 ∨ ∃ d, d ≤ 9 ∧ sgn (s_key (v_now V) r1) k1 = nI d := Or.inr ⟨d1, hd1, ed1⟩
              refine q_reI (show (sgn (s_key (v_now V) r1) k1 : Int32) = anI (sgn (s_key (v_now V) r1) k1) from anI_n hd1 ed1) ?_
              refine lv_istore (lv' := [(5, .int (anI (sgn (s_key (v_now V) r1) k1))), (4, .int 1), (0, .ref (d 0)), (1, .int x), (2, .int (nI r1)), (3, .int (nI k1))]) hx hb dX5_answer_93 hl (by decide) rfl (fun ls hl => ?_)
              refine lv_iload hx hb dX5_answer_95 (lv_at hl 0 rfl) ?_
              refine lv_if_ge (tgt := 105) hx hb dX5_answer_97 (by decide) (fun c_97 => ?_) (fun c_97 => ?_)
              · skip
                have hY := an_ge hX c_97
                have hY1 := hY.1
                have hY2 := hY.2
                refine lv_iload hx hb dX5_answer_105 (lv_at hl 0 rfl) ?_
                exact q_iret hx hb hr hlk dX5_answer_107 (by simp [anwR, anwD, c_3, cr1, c_10, c_18, ck1, hk1a, hk1n, c_51, hY1, hY2, c_97])
              · skip
                have hY := an_lt hX c_97
                refine lv_bipush (v := (-6)) hx hb dX5_answer_100 (by decide) ?_
                refine lv_goto (tgt := 107) hx hb dX5_answer_102 (by decide) ?_
                exact q_iret hx hb hr hlk dX5_answer_107 (by simp [anwR, anwD, c_3, cr1, c_10, c_18, ck1, hk1a, hk1n, c_51, hY, c_97])
          · skip
            have c_51 : (inR z 0 9) = false := bI_eq c_51
            have hq := inQ_f c_51
            refine lv_bipush (v := (-2)) hx hb dX5_answer_54 (by decide) ?_
            exact q_iret hx hb hr hlk dX5_answer_56 (by rcases hq with q | q <;> simp [anwR, q, c_3, cr1, c_10, c_18, c_51])
        · skip
          exact absurd c_39 (by decide)

set_option maxHeartbeats 4000000 in
set_option maxRecDepth 100000 in
theorem c_X5_at (l : Launch) (g : q_G) (d : Nat → Nat) (M : q_MV) (V : q_CV) (K : Nat) (hc : q_cp (v_now V) (m_s M)) (ho : q_ok K (v_now V)) (hK5 : K ≤ 512) (hpl : v_pl V ≤ 80) (hln : m_len M = v_pl V) (hpd : ∀ k, k < v_pl V → m_pad M k = v_pc V k) (hst : m_st M = v_hl V) (x : Int32) : q_PM l yX5_at wsX5_at { frames := 6, cells := 0, slots := 0, locals := 137 } [.ref (d 0), .int x] (q_B g (q_mdW g d M)) (.int (lasF (v_now V) x (s_n (v_now V)))) := by
  refine q_pm (cc := cX5_at) (maxL := 5) (ret := (some .int)) (by decide) rfl (Nat.le_of_ble_eq_true rfl) ?_
  intro p e s m args below meth c ls hx hb hml hown hts hr hlk hB hl
  obtain ⟨hP, hK, hN⟩ := hB
  have hn10 := ok_n ho
  have fl_7 := hts (.fieldLink RX5 7 "PubQuizzesModel" "s" "[I") (by decide +kernel)
  have hi_X5 : ∀ w ∈ u_ws RX5 TX5 7, w ∈ wsX5_at := by decide +kernel
  have hl : lv_has ls 5 [(0, .ref (d 0)), (1, .int x)] := hl
  refine lv_iconst (v := (-1)) hx hb dX5_at_0 (by decide) ?_
  refine lv_istore_n (lv' := [(2, .int (-1)), (0, .ref (d 0)), (1, .int x)]) hx hb dX5_at_1 rfl hl (by decide) rfl (fun ls hl => ?_)
  refine lv_iconst (v := 0) hx hb dX5_at_2 (by decide) ?_
  refine lv_istore_n (lv' := [(3, .int 0), (2, .int (-1)), (0, .ref (d 0)), (1, .int x)]) hx hb dX5_at_3 rfl hl (by decide) rfl (fun ls hl => ?_)
  have L_4 : ∀ (fu i4 : Nat) (y2_4 : Int32), y2_4 = lasF (v_now V) x i4 → i4 ≤ s_n (v_now V) → s_n (v_now V) < i4 + fu → ∀ ls : Array Slot, lv_has ls 5 [(3, .int (nI i4)), (2, .int y2_4), (0, .ref (d 0)), (1, .int x)] → W p l e { frames := 6, cells := 0, slots := 0, locals := 137 } s m args below meth c s.heap [] 0 0 (MQ below (k2_QcV (.int (lasF (v_now V) x (s_n (v_now V))))) args s 0 0 (fun _ => False)) (F0 m 4 ls []) := by
    intro fu
    induction fu with
    | zero => intro i4 y2_4 ey2_4 hi_i4 hn_i4; exact absurd hn_i4 (by omega)
    | succ fu ih_i4 =>
      intro i4 y2_4 ey2_4 hi_i4 hn_i4 ls hl
      subst ey2_4
      refine lv_iload_n hx hb dX5_at_4 rfl (lv_at hl 0 rfl) ?_
      refine lv_aload_n hx hb dX5_at_5 rfl (lv_at hl 2 rfl) ?_
      refine va_get (D := g.1) (ci := 4) (v := .ref (d 1)) (C := RX5) (T := TX5) (N := 7) hx hb hts hi_X5 hown hK hP 0 rfl rfl 0 (by decide) fl_7 (fun _ h9 => h9) rfl dX5_at_6 ?_
      refine lv_iconst (v := 4) hx hb dX5_at_9 (by decide) ?_
      refine q_iald (j := 4) hx hb hK hP 1 0 rfl rfl (by omega) (by decide) dX5_at_10 ?_
      refine q_reI (show (m_s M 4 : Int32) = nI (s_n (v_now V)) from cp_n hc) ?_
      refine lv_icmp_ge (tgt := 56) hx hb dX5_at_11 (by decide) (fun c_11 => ?_) (fun c_11 => ?_)
      · skip
        have e_11 : i4 = s_n (v_now V) := q_ge_T (by omega) hi_i4 c_11
        subst e_11
        refine lv_iload_n hx hb dX5_at_56 rfl (lv_at hl 1 rfl) ?_
        exact q_iret hx hb hr hlk dX5_at_57 (rfl)
      · skip
        have lt_i4 : i4 < s_n (v_now V) := q_ge_F (by omega) hi_i4 c_11
        refine lv_aload_n hx hb dX5_at_14 rfl (lv_at hl 2 rfl) ?_
        refine lv_iload_n hx hb dX5_at_15 rfl (lv_at hl 0 rfl) ?_
        refine q_V (As := [.int (nI i4)]) (rest := []) ⟨hx, hb, hml, hown, hts⟩ (c_X5_rank l g d M (v_now V) K hc ho hK5 i4 (by omega)) (cwV 1 hts gX5_at_X5_rank rfl rfl rfl (by decide +kernel) ⟨Nat.le_of_ble_eq_true rfl, Nat.le_of_ble_eq_true rfl⟩) q_B_blind (va_recv hK hP (ci := 4) (q0 := 0) rfl rfl) (q_B_of hP hK hN) rfl hl.1 rfl (Nat.le_of_ble_eq_true rfl) dX5_at_16 (Nat.zero_le _) (Nat.zero_le _) ?_
        refine lv_iconst (v := 1) hx hb dX5_at_19 (by decide) ?_
        refine lv_isub hx hb dX5_at_20 ?_
        refine lv_aload_n hx hb dX5_at_21 rfl (lv_at hl 2 rfl) ?_
        refine lv_iload_n hx hb dX5_at_22 rfl (lv_at hl 0 rfl) ?_
        refine q_V (As := [.int (nI i4)]) (rest := [.int ((nI (rnkS (v_now V) i4)) - 1)]) ⟨hx, hb, hml, hown, hts⟩ (c_X5_tied l g d M (v_now V) K hc ho hK5 i4 (by omega)) (cwV 1 hts gX5_at_X5_tied rfl rfl rfl (by decide +kernel) ⟨Nat.le_of_ble_eq_true rfl, Nat.le_of_ble_eq_true rfl⟩) q_B_blind (va_recv hK hP (ci := 4) (q0 := 0) rfl rfl) (q_B_of hP hK hN) rfl hl.1 rfl (Nat.le_of_ble_eq_true rfl) dX5_at_23 (Nat.zero_le _) (Nat.zero_le _) ?_
        refine lv_iconst (v := 1) hx hb dX5_at_26 (by decide) ?_
        refine lv_iload_n hx hb dX5_at_27 rfl (lv_at hl 0 rfl) ?_
        refine lv_ishl hx hb dX5_at_28 ?_
        refine lv_iconst (v := 1) hx hb dX5_at_29 (by decide) ?_
        refine lv_isub hx hb dX5_at_30 ?_
        refine lv_iand hx hb dX5_at_31 ?_
        refine q_S (As := [.int ((tieS (v_now V) i4) &&& ((1 <<< ((nI i4) &&& 31)) - 1))]) (rest := [.int ((nI (rnkS (v_now V) i4)) - 1)]) ⟨hx, hb, hml, hown, hts⟩ (c_X5_bits l ((tieS (v_now V) i4) &&& ((1 <<< ((nI i4) &&& 31)) - 1)) ) (va_cwS 1 hts gX5_at_X5_bits rfl rfl rfl (by decide +kernel) ⟨Nat.le_of_ble_eq_true rfl, Nat.le_of_ble_eq_true rfl⟩) q_Blind_t (fun _ _ _ => trivial) rfl hl.1 rfl (Nat.le_of_ble_eq_true rfl) dX5_at_32 (Nat.zero_le _) (Nat.zero_le _) ?_
        refine lv_iadd hx hb dX5_at_35 ?_
        refine q_reI (y := plcS (v_now V) i4) (congrArg (fun z => nI (rnkS (v_now V) i4) - 1 + z) (q_bitL (tie1 (v_now V) i4) i4 (s_n (v_now V)) (by omega) (by omega) hn10)) ?_
        refine lv_istore (lv' := [(4, .int (plcS (v_now V) i4)), (3, .int (nI i4)), (2, .int (lasF (v_now V) x i4)), (0, .ref (d 0)), (1, .int x)]) hx hb dX5_at_36 hl (by decide) rfl (fun ls hl => ?_)
        refine lv_iload hx hb dX5_at_38 (lv_at hl 0 rfl) ?_
        refine lv_iload_n hx hb dX5_at_40 rfl (lv_at hl 4 rfl) ?_
        refine lv_icmp_ne (tgt := 48) hx hb dX5_at_41 (by decide) (fun c_41 => ?_) (fun c_41 => ?_)
        · skip
          refine lv_iload_n hx hb dX5_at_48 rfl (lv_at hl 2 rfl) ?_
          refine lv_istore_n (lv' := [(2, .int (lasF (v_now V) x i4)), (4, .int (plcS (v_now V) i4)), (3, .int (nI i4)), (0, .ref (d 0)), (1, .int x)]) hx hb dX5_at_49 rfl hl (by decide) rfl (fun ls hl => ?_)
          refine lv_iinc (v := nI (i4 + 1)) (lv' := [(3, .int (nI (i4 + 1))), (2, .int (lasF (v_now V) x i4)), (4, .int (plcS (v_now V) i4)), (0, .ref (d 0)), (1, .int x)]) hx hb dX5_at_50 hl (k := 2) rfl (nI_1 _) (by decide) rfl (fun ls hl => ?_)
          refine lv_goto (tgt := 4) hx hb dX5_at_53 (by decide) ?_
          exact ih_i4 (i4 + 1) (lasF (v_now V) x i4) (by simp [lasF, c_41]) lt_i4 (by omega) ls (lv_sub hl [0, 1, 3, 4] rfl)
        · skip
          refine lv_iload_n hx hb dX5_at_44 rfl (lv_at hl 1 rfl) ?_
          refine lv_goto (tgt := 49) hx hb dX5_at_45 (by decide) ?_
          refine lv_istore_n (lv' := [(2, .int (nI i4)), (4, .int (plcS (v_now V) i4)), (3, .int (nI i4)), (0, .ref (d 0)), (1, .int x)]) hx hb dX5_at_49 rfl hl (by decide) rfl (fun ls hl => ?_)
          refine lv_iinc (v := nI (i4 + 1)) (lv' := [(3, .int (nI (i4 + 1))), (2, .int (nI i4)), (4, .int (plcS (v_now V) i4)), (0, .ref (d 0)), (1, .int x)]) hx hb dX5_at_50 hl (k := 2) rfl (nI_1 _) (by decide) rfl (fun ls hl => ?_)
          refine lv_goto (tgt := 4) hx hb dX5_at_53 (by decide) ?_
          exact ih_i4 (i4 + 1) (nI i4) (by simp [lasF, c_41]) lt_i4 (by omega) ls (lv_sub hl [0, 1, 3, 4] rfl)
  exact L_4 (s_n (v_now V) + 1) 0 (-1) (rfl) (Nat.zero_le _) (by omega) ls (lv_sub hl [0, 1, 2, 3] rfl)

set_option maxHeartbeats 4000000 in
set_option maxRecDepth 100000 in
theorem c_X5_count (l : Launch) (g : q_G) (d : Nat → Nat) (M : q_MV) (V : q_CV) (K : Nat) (hc : q_cp (v_now V) (m_s M)) (ho : q_ok K (v_now V)) (hK5 : K ≤ 512) (hpl : v_pl V ≤ 80) (hln : m_len M = v_pl V) (hpd : ∀ k, k < v_pl V → m_pad M k = v_pc V k) (hst : m_st M = v_hl V) (z : Int32) : q_PM l yX5_count wsX5_count { frames := 5, cells := 0, slots := 0, locals := 113 } [.ref (d 0), .int z] (q_B g (q_mdW g d M)) (.int (couR V z)) := by
  refine q_pm (cc := cX5_count) (maxL := 2) (ret := (some .int)) (by decide) rfl (Nat.le_of_ble_eq_true rfl) ?_
  intro p e s m args below meth c ls hx hb hml hown hts hr hlk hB hl
  obtain ⟨hP, hK, hN⟩ := hB
  have hn10 := ok_n ho
  have fl_7 := hts (.fieldLink RX5 7 "PubQuizzesModel" "s" "[I") (by decide +kernel)
  have fl_35 := hts (.fieldLink RX5 35 "PubQuizzesModel" "states" "I") (by decide +kernel)
  have fl_92 := hts (.fieldLink RX5 92 "PubQuizzesModel" "length" "I") (by decide +kernel)
  have hi_X5 : ∀ w ∈ u_ws RX5 TX5 7, w ∈ wsX5_count := by decide +kernel
  have hl : lv_has ls 2 [(0, .ref (d 0)), (1, .int z)] := hl
  refine lv_iload_n hx hb dX5_count_0 rfl (lv_at hl 1 rfl) ?_
  by_cases w_1_0 : z = 0
  · skip
    have tx_1 : (z : Int32).toInt = 0 := by rw [w_1_0]; decide
    refine lv_tableIn (tgt := 76) (off := 75) hx hb dX5_count_1 (by rw [tx_1]; decide) (by rw [tx_1]; decide) (by rw [tx_1]; rfl) (by decide) ?_
    refine lv_aload_n hx hb dX5_count_76 rfl (lv_at hl 0 rfl) ?_
    refine va_get (D := g.1) (ci := 4) (v := .ref (d 1)) (C := RX5) (T := TX5) (N := 7) hx hb hts hi_X5 hown hK hP 0 rfl rfl 0 (by decide) fl_7 (fun _ h9 => h9) rfl dX5_count_77 ?_
    refine lv_iconst (v := 4) hx hb dX5_count_80 (by decide) ?_
    refine q_iald (j := 4) hx hb hK hP 1 0 rfl rfl (by omega) (by decide) dX5_count_81 ?_
    refine q_reI (show (m_s M 4 : Int32) = nI (s_n (v_now V)) from cp_n hc) ?_
    exact q_iret hx hb hr hlk dX5_count_82 (by simp [couR, hln, hst, w_1_0])
  by_cases w_1_1 : z = 1
  · skip
    have tx_1 : (z : Int32).toInt = 1 := by rw [w_1_1]; decide
    refine lv_tableIn (tgt := 83) (off := 82) hx hb dX5_count_1 (by rw [tx_1]; decide) (by rw [tx_1]; decide) (by rw [tx_1]; rfl) (by decide) ?_
    refine lv_aload_n hx hb dX5_count_83 rfl (lv_at hl 0 rfl) ?_
    refine q_V (As := []) (rest := []) ⟨hx, hb, hml, hown, hts⟩ (c_X5_entries l g d M (v_now V) K hc ho hK5  ) (cwV 0 hts gX5_count_X5_entries rfl rfl rfl (by decide +kernel) ⟨Nat.le_of_ble_eq_true rfl, Nat.le_of_ble_eq_true rfl⟩) q_B_blind (va_recv hK hP (ci := 4) (q0 := 0) rfl rfl) (q_B_of hP hK hN) rfl hl.1 rfl (Nat.le_of_ble_eq_true rfl) dX5_count_84 (Nat.zero_le _) (Nat.zero_le _) ?_
    exact q_iret hx hb hr hlk dX5_count_87 (by simp [couR, hln, hst, w_1_0, w_1_1])
  by_cases w_1_2 : z = 2
  · skip
    have tx_1 : (z : Int32).toInt = 2 := by rw [w_1_2]; decide
    refine lv_tableIn (tgt := 88) (off := 87) hx hb dX5_count_1 (by rw [tx_1]; decide) (by rw [tx_1]; decide) (by rw [tx_1]; rfl) (by decide) ?_
    refine lv_aload_n hx hb dX5_count_88 rfl (lv_at hl 0 rfl) ?_
    refine q_V (As := []) (rest := []) ⟨hx, hb, hml, hown, hts⟩ (c_X5_kept l g d M (v_now V) K hc ho hK5  ) (cwV 0 hts gX5_count_X5_kept rfl rfl rfl (by decide +kernel) ⟨Nat.le_of_ble_eq_true rfl, Nat.le_of_ble_eq_true rfl⟩) q_B_blind (va_recv hK hP (ci := 4) (q0 := 0) rfl rfl) (q_B_of hP hK hN) rfl hl.1 rfl (Nat.le_of_ble_eq_true rfl) dX5_count_89 (Nat.zero_le _) (Nat.zero_le _) ?_
    exact q_iret hx hb hr hlk dX5_count_92 (by simp [couR, hln, hst, w_1_0, w_1_1, w_1_2])
  by_cases w_1_3 : z = 3
  · skip
    have tx_1 : (z : Int32).toInt = 3 := by rw [w_1_3]; decide
    refine lv_tableIn (tgt := 93) (off := 92) hx hb dX5_count_1 (by rw [tx_1]; decide) (by rw [tx_1]; decide) (by rw [tx_1]; rfl) (by decide) ?_
    refine lv_aload_n hx hb dX5_count_93 rfl (lv_at hl 0 rfl) ?_
    refine q_V (As := []) (rest := []) ⟨hx, hb, hml, hown, hts⟩ (c_X5_entries l g d M (v_now V) K hc ho hK5  ) (cwV 0 hts gX5_count_X5_entries rfl rfl rfl (by decide +kernel) ⟨Nat.le_of_ble_eq_true rfl, Nat.le_of_ble_eq_true rfl⟩) q_B_blind (va_recv hK hP (ci := 4) (q0 := 0) rfl rfl) (q_B_of hP hK hN) rfl hl.1 rfl (Nat.le_of_ble_eq_true rfl) dX5_count_94 (Nat.zero_le _) (Nat.zero_le _) ?_
    refine lv_aload_n hx hb dX5_count_97 rfl (lv_at hl 0 rfl) ?_
    refine q_V (As := []) (rest := [.int (entS (v_now V))]) ⟨hx, hb, hml, hown, hts⟩ (c_X5_kept l g d M (v_now V) K hc ho hK5  ) (cwV 0 hts gX5_count_X5_kept rfl rfl rfl (by decide +kernel) ⟨Nat.le_of_ble_eq_true rfl, Nat.le_of_ble_eq_true rfl⟩) q_B_blind (va_recv hK hP (ci := 4) (q0 := 0) rfl rfl) (q_B_of hP hK hN) rfl hl.1 rfl (Nat.le_of_ble_eq_true rfl) dX5_count_98 (Nat.zero_le _) (Nat.zero_le _) ?_
    refine lv_isub hx hb dX5_count_101 ?_
    exact q_iret hx hb hr hlk dX5_count_102 (by simp [couR, potS, w_1_0, w_1_1, w_1_2, w_1_3])
  by_cases w_1_4 : z = 4
  · skip
    have tx_1 : (z : Int32).toInt = 4 := by rw [w_1_4]; decide
    refine lv_tableIn (tgt := 103) (off := 102) hx hb dX5_count_1 (by rw [tx_1]; decide) (by rw [tx_1]; decide) (by rw [tx_1]; rfl) (by decide) ?_
    refine lv_aload_n hx hb dX5_count_103 rfl (lv_at hl 0 rfl) ?_
    refine q_V (As := []) (rest := []) ⟨hx, hb, hml, hown, hts⟩ (c_X5_openRounds l g d M (v_now V) K hc ho hK5  ) (cwV 0 hts gX5_count_X5_openRounds rfl rfl rfl (by decide +kernel) ⟨Nat.le_of_ble_eq_true rfl, Nat.le_of_ble_eq_true rfl⟩) q_B_blind (va_recv hK hP (ci := 4) (q0 := 0) rfl rfl) (q_B_of hP hK hN) rfl hl.1 rfl (Nat.le_of_ble_eq_true rfl) dX5_count_104 (Nat.zero_le _) (Nat.zero_le _) ?_
    exact q_iret hx hb hr hlk dX5_count_107 (by simp [couR, hln, hst, w_1_0, w_1_1, w_1_2, w_1_3, w_1_4])
  by_cases w_1_5 : z = 5
  · skip
    have tx_1 : (z : Int32).toInt = 5 := by rw [w_1_5]; decide
    refine lv_tableIn (tgt := 108) (off := 107) hx hb dX5_count_1 (by rw [tx_1]; decide) (by rw [tx_1]; decide) (by rw [tx_1]; rfl) (by decide) ?_
    refine lv_aload_n hx hb dX5_count_108 rfl (lv_at hl 0 rfl) ?_
    refine q_V (As := []) (rest := []) ⟨hx, hb, hml, hown, hts⟩ (c_X5_fines l g d M (v_now V) K hc ho hK5  ) (cwV 0 hts gX5_count_X5_fines rfl rfl rfl (by decide +kernel) ⟨Nat.le_of_ble_eq_true rfl, Nat.le_of_ble_eq_true rfl⟩) q_B_blind (va_recv hK hP (ci := 4) (q0 := 0) rfl rfl) (q_B_of hP hK hN) rfl hl.1 rfl (Nat.le_of_ble_eq_true rfl) dX5_count_109 (Nat.zero_le _) (Nat.zero_le _) ?_
    exact q_iret hx hb hr hlk dX5_count_112 (by simp [couR, hln, hst, w_1_0, w_1_1, w_1_2, w_1_3, w_1_4, w_1_5])
  by_cases w_1_6 : z = 6
  · skip
    have tx_1 : (z : Int32).toInt = 6 := by rw [w_1_6]; decide
    refine lv_tableIn (tgt := 113) (off := 112) hx hb dX5_count_1 (by rw [tx_1]; decide) (by rw [tx_1]; decide) (by rw [tx_1]; rfl) (by decide) ?_
    refine lv_aload_n hx hb dX5_count_113 rfl (lv_at hl 0 rfl) ?_
    refine va_get (D := g.1) (ci := 4) (v := .ref (d 1)) (C := RX5) (T := TX5) (N := 7) hx hb hts hi_X5 hown hK hP 0 rfl rfl 0 (by decide) fl_7 (fun _ h9 => h9) rfl dX5_count_114 ?_
    refine lv_bipush (v := 7) hx hb dX5_count_117 (by decide) ?_
    refine q_iald (j := 7) hx hb hK hP 1 0 rfl rfl (by omega) (by decide) dX5_count_119 ?_
    refine q_reI (show (m_s M 7 : Int32) = looA (v_now V) from cp_loks hc) ?_
    exact q_iret hx hb hr hlk dX5_count_120 (by simp [couR, hln, hst, w_1_0, w_1_1, w_1_2, w_1_3, w_1_4, w_1_5, w_1_6])
  by_cases w_1_7 : z = 7
  · skip
    have tx_1 : (z : Int32).toInt = 7 := by rw [w_1_7]; decide
    refine lv_tableIn (tgt := 121) (off := 120) hx hb dX5_count_1 (by rw [tx_1]; decide) (by rw [tx_1]; decide) (by rw [tx_1]; rfl) (by decide) ?_
    refine lv_aload_n hx hb dX5_count_121 rfl (lv_at hl 0 rfl) ?_
    refine va_get (D := g.1) (ci := 4) (v := .ref (d 1)) (C := RX5) (T := TX5) (N := 7) hx hb hts hi_X5 hown hK hP 0 rfl rfl 0 (by decide) fl_7 (fun _ h9 => h9) rfl dX5_count_122 ?_
    refine lv_iconst (v := 5) hx hb dX5_count_125 (by decide) ?_
    refine q_iald (j := 5) hx hb hK hP 1 0 rfl rfl (by omega) (by decide) dX5_count_126 ?_
    refine q_reI (show (m_s M 5 : Int32) = bI (!decide (s_tru (v_now V) = -6)) from cp_told hc) ?_
    refine lv_if_ne (tgt := 135) hx hb dX5_count_127 (by decide) (fun c_127 => ?_) (fun c_127 => ?_)
    · skip
      have c_127 : (!decide (s_tru (v_now V) = -6)) = true := bI_ne c_127
      have e6 := tru_t c_127
      refine lv_aload_n hx hb dX5_count_135 rfl (lv_at hl 0 rfl) ?_
      refine va_get (D := g.1) (ci := 4) (v := .ref (d 1)) (C := RX5) (T := TX5) (N := 7) hx hb hts hi_X5 hown hK hP 0 rfl rfl 0 (by decide) fl_7 (fun _ h9 => h9) rfl dX5_count_136 ?_
      refine lv_bipush (v := 6) hx hb dX5_count_139 (by decide) ?_
      refine q_iald (j := 6) hx hb hK hP 1 0 rfl rfl (by omega) (by decide) dX5_count_141 ?_
      refine q_reI (show (m_s M 6 : Int32) = s_tru (v_now V) from cp_tru hc (by assumption)) ?_
      exact q_iret hx hb hr hlk dX5_count_142 (by simp [couR, hln, hst, w_1_0, w_1_1, w_1_2, w_1_3, w_1_4, w_1_5, w_1_6, w_1_7, e6, c_127])
    · skip
      have c_127 : (!decide (s_tru (v_now V) = -6)) = false := bI_eq c_127
      have e6 := tru_f c_127
      refine lv_bipush (v := (-6)) hx hb dX5_count_130 (by decide) ?_
      refine lv_goto (tgt := 142) hx hb dX5_count_132 (by decide) ?_
      exact q_iret hx hb hr hlk dX5_count_142 (by simp [couR, hln, hst, w_1_0, w_1_1, w_1_2, w_1_3, w_1_4, w_1_5, w_1_6, w_1_7, e6, c_127])
  by_cases w_1_8 : z = 8
  · skip
    have tx_1 : (z : Int32).toInt = 8 := by rw [w_1_8]; decide
    refine lv_tableIn (tgt := 143) (off := 142) hx hb dX5_count_1 (by rw [tx_1]; decide) (by rw [tx_1]; decide) (by rw [tx_1]; rfl) (by decide) ?_
    refine lv_aload_n hx hb dX5_count_143 rfl (lv_at hl 0 rfl) ?_
    refine q_V (As := []) (rest := []) ⟨hx, hb, hml, hown, hts⟩ (c_X5_unlike l g d M (v_now V) K hc ho hK5  ) (cwV 0 hts gX5_count_X5_unlike rfl rfl rfl (by decide +kernel) ⟨Nat.le_of_ble_eq_true rfl, Nat.le_of_ble_eq_true rfl⟩) q_B_blind (va_recv hK hP (ci := 4) (q0 := 0) rfl rfl) (q_B_of hP hK hN) rfl hl.1 rfl (Nat.le_of_ble_eq_true rfl) dX5_count_144 (Nat.zero_le _) (Nat.zero_le _) ?_
    exact q_iret hx hb hr hlk dX5_count_147 (by simp [couR, hln, hst, w_1_0, w_1_1, w_1_2, w_1_3, w_1_4, w_1_5, w_1_6, w_1_7, w_1_8])
  by_cases w_1_9 : z = 9
  · skip
    have tx_1 : (z : Int32).toInt = 9 := by rw [w_1_9]; decide
    refine lv_tableIn (tgt := 148) (off := 147) hx hb dX5_count_1 (by rw [tx_1]; decide) (by rw [tx_1]; decide) (by rw [tx_1]; rfl) (by decide) ?_
    refine lv_aload_n hx hb dX5_count_148 rfl (lv_at hl 0 rfl) ?_
    refine va_get (D := g.1) (ci := 4) (v := .ref (d 1)) (C := RX5) (T := TX5) (N := 7) hx hb hts hi_X5 hown hK hP 0 rfl rfl 0 (by decide) fl_7 (fun _ h9 => h9) rfl dX5_count_149 ?_
    refine lv_iload_n hx hb dX5_count_152 rfl (lv_at hl 1 rfl) ?_
    refine lv_bipush (v := 9) hx hb dX5_count_153 (by decide) ?_
    refine lv_isub hx hb dX5_count_155 ?_
    refine q_reI (show ((z - 9) : Int32) = 0 from by rw [w_1_9]; decide) ?_
    refine q_iald (j := 0) hx hb hK hP 1 0 rfl rfl (by omega) (by decide) dX5_count_156 ?_
    refine q_reI (show (m_s M 0 : Int32) = s_set (v_now V) 0 from cp_set hc (k := 0) (by omega)) ?_
    exact q_iret hx hb hr hlk dX5_count_157 (by simp [couR, hln, hst, w_1_0, w_1_1, w_1_2, w_1_3, w_1_4, w_1_5, w_1_6, w_1_7, w_1_8, w_1_9])
  by_cases w_1_10 : z = 10
  · skip
    have tx_1 : (z : Int32).toInt = 10 := by rw [w_1_10]; decide
    refine lv_tableIn (tgt := 148) (off := 147) hx hb dX5_count_1 (by rw [tx_1]; decide) (by rw [tx_1]; decide) (by rw [tx_1]; rfl) (by decide) ?_
    refine lv_aload_n hx hb dX5_count_148 rfl (lv_at hl 0 rfl) ?_
    refine va_get (D := g.1) (ci := 4) (v := .ref (d 1)) (C := RX5) (T := TX5) (N := 7) hx hb hts hi_X5 hown hK hP 0 rfl rfl 0 (by decide) fl_7 (fun _ h9 => h9) rfl dX5_count_149 ?_
    refine lv_iload_n hx hb dX5_count_152 rfl (lv_at hl 1 rfl) ?_
    refine lv_bipush (v := 9) hx hb dX5_count_153 (by decide) ?_
    refine lv_isub hx hb dX5_count_155 ?_
    refine q_reI (show ((z - 9) : Int32) = 1 from by rw [w_1_10]; decide) ?_
    refine q_iald (j := 1) hx hb hK hP 1 0 rfl rfl (by omega) (by decide) dX5_count_156 ?_
    refine q_reI (show (m_s M 1 : Int32) = s_set (v_now V) 1 from cp_set hc (k := 1) (by omega)) ?_
    exact q_iret hx hb hr hlk dX5_count_157 (by simp [couR, hln, hst, w_1_0, w_1_1, w_1_2, w_1_3, w_1_4, w_1_5, w_1_6, w_1_7, w_1_8, w_1_9, w_1_10])
  by_cases w_1_11 : z = 11
  · skip
    have tx_1 : (z : Int32).toInt = 11 := by rw [w_1_11]; decide
    refine lv_tableIn (tgt := 148) (off := 147) hx hb dX5_count_1 (by rw [tx_1]; decide) (by rw [tx_1]; decide) (by rw [tx_1]; rfl) (by decide) ?_
    refine lv_aload_n hx hb dX5_count_148 rfl (lv_at hl 0 rfl) ?_
    refine va_get (D := g.1) (ci := 4) (v := .ref (d 1)) (C := RX5) (T := TX5) (N := 7) hx hb hts hi_X5 hown hK hP 0 rfl rfl 0 (by decide) fl_7 (fun _ h9 => h9) rfl dX5_count_149 ?_
    refine lv_iload_n hx hb dX5_count_152 rfl (lv_at hl 1 rfl) ?_
    refine lv_bipush (v := 9) hx hb dX5_count_153 (by decide) ?_
    refine lv_isub hx hb dX5_count_155 ?_
    refine q_reI (show ((z - 9) : Int32) = 2 from by rw [w_1_11]; decide) ?_
    refine q_iald (j := 2) hx hb hK hP 1 0 rfl rfl (by omega) (by decide) dX5_count_156 ?_
    refine q_reI (show (m_s M 2 : Int32) = s_set (v_now V) 2 from cp_set hc (k := 2) (by omega)) ?_
    exact q_iret hx hb hr hlk dX5_count_157 (by simp [couR, hln, hst, w_1_0, w_1_1, w_1_2, w_1_3, w_1_4, w_1_5, w_1_6, w_1_7, w_1_8, w_1_9, w_1_10, w_1_11])
  by_cases w_1_12 : z = 12
  · skip
    have tx_1 : (z : Int32).toInt = 12 := by rw [w_1_12]; decide
    refine lv_tableIn (tgt := 148) (off := 147) hx hb dX5_count_1 (by rw [tx_1]; decide) (by rw [tx_1]; decide) (by rw [tx_1]; rfl) (by decide) ?_
    refine lv_aload_n hx hb dX5_count_148 rfl (lv_at hl 0 rfl) ?_
    refine va_get (D := g.1) (ci := 4) (v := .ref (d 1)) (C := RX5) (T := TX5) (N := 7) hx hb hts hi_X5 hown hK hP 0 rfl rfl 0 (by decide) fl_7 (fun _ h9 => h9) rfl dX5_count_149 ?_
    refine lv_iload_n hx hb dX5_count_152 rfl (lv_at hl 1 rfl) ?_
    refine lv_bipush (v := 9) hx hb dX5_count_153 (by decide) ?_
    refine lv_isub hx hb dX5_count_155 ?_
    refine q_reI (show ((z - 9) : Int32) = 3 from by rw [w_1_12]; decide) ?_
    refine q_iald (j := 3) hx hb hK hP 1 0 rfl rfl (by omega) (by decide) dX5_count_156 ?_
    refine q_reI (show (m_s M 3 : Int32) = s_set (v_now V) 3 from cp_set hc (k := 3) (by omega)) ?_
    exact q_iret hx hb hr hlk dX5_count_157 (by simp [couR, hln, hst, w_1_0, w_1_1, w_1_2, w_1_3, w_1_4, w_1_5, w_1_6, w_1_7, w_1_8, w_1_9, w_1_10, w_1_11, w_1_12])
  by_cases w_1_13 : z = 13
  · skip
    have tx_1 : (z : Int32).toInt = 13 := by rw [w_1_13]; decide
    refine lv_tableIn (tgt := 158) (off := 157) hx hb dX5_count_1 (by rw [tx_1]; decide) (by rw [tx_1]; decide) (by rw [tx_1]; rfl) (by decide) ?_
    refine lv_aload_n hx hb dX5_count_158 rfl (lv_at hl 0 rfl) ?_
    refine va_get (D := g.1) (ci := 4) (v := .int (nI (m_len M))) (C := RX5) (T := TX5) (N := 7) hx hb hts hi_X5 hown hK hP 0 rfl rfl 5 (by decide) fl_92 (fun _ h9 => h9) rfl dX5_count_159 ?_
    exact q_iret hx hb hr hlk dX5_count_162 (by simp [couR, hln, hst, w_1_0, w_1_1, w_1_2, w_1_3, w_1_4, w_1_5, w_1_6, w_1_7, w_1_8, w_1_9, w_1_10, w_1_11, w_1_12, w_1_13])
  by_cases w_1_14 : z = 14
  · skip
    have tx_1 : (z : Int32).toInt = 14 := by rw [w_1_14]; decide
    refine lv_tableIn (tgt := 163) (off := 162) hx hb dX5_count_1 (by rw [tx_1]; decide) (by rw [tx_1]; decide) (by rw [tx_1]; rfl) (by decide) ?_
    refine lv_aload_n hx hb dX5_count_163 rfl (lv_at hl 0 rfl) ?_
    refine va_get (D := g.1) (ci := 4) (v := .int (nI (m_st M))) (C := RX5) (T := TX5) (N := 7) hx hb hts hi_X5 hown hK hP 0 rfl rfl 6 (by decide) fl_35 (fun _ h9 => h9) rfl dX5_count_164 ?_
    exact q_iret hx hb hr hlk dX5_count_167 (by simp [couR, hln, hst, w_1_0, w_1_1, w_1_2, w_1_3, w_1_4, w_1_5, w_1_6, w_1_7, w_1_8, w_1_9, w_1_10, w_1_11, w_1_12, w_1_13, w_1_14])
  have tw_1 := q_tab (n := 15) (lo := 0) (x := z) (by decide) (lt_s (p := fun k => ¬ z = nI (k + 0)) (lt_s (p := fun k => ¬ z = nI (k + 0)) (lt_s (p := fun k => ¬ z = nI (k + 0)) (lt_s (p := fun k => ¬ z = nI (k + 0)) (lt_s (p := fun k => ¬ z = nI (k + 0)) (lt_s (p := fun k => ¬ z = nI (k + 0)) (lt_s (p := fun k => ¬ z = nI (k + 0)) (lt_s (p := fun k => ¬ z = nI (k + 0)) (lt_s (p := fun k => ¬ z = nI (k + 0)) (lt_s (p := fun k => ¬ z = nI (k + 0)) (lt_s (p := fun k => ¬ z = nI (k + 0)) (lt_s (p := fun k => ¬ z = nI (k + 0)) (lt_s (p := fun k => ¬ z = nI (k + 0)) (lt_s (p := fun k => ¬ z = nI (k + 0)) (lt_s (p := fun k => ¬ z = nI (k + 0)) (lt_0) w_1_0) w_1_1) w_1_2) w_1_3) w_1_4) w_1_5) w_1_6) w_1_7) w_1_8) w_1_9) w_1_10) w_1_11) w_1_12) w_1_13) w_1_14)
  refine lv_tableOut (tgt := 168) hx hb dX5_count_1 (by omega) (by decide) ?_
  refine lv_bipush (v := (-2)) hx hb dX5_count_168 (by decide) ?_
  exact q_iret hx hb hr hlk dX5_count_170 (by simp [couR, hln, hst, w_1_0, w_1_1, w_1_2, w_1_3, w_1_4, w_1_5, w_1_6, w_1_7, w_1_8, w_1_9, w_1_10, w_1_11, w_1_12, w_1_13, w_1_14])

set_option maxHeartbeats 4000000 in
set_option maxRecDepth 100000 in
theorem c_X5_most (l : Launch) (g : q_G) (d : Nat → Nat) (M : q_MV) (V : q_CV) (K : Nat) (hc : q_cp (v_now V) (m_s M)) (ho : q_ok K (v_now V)) (hK5 : K ≤ 512) (hpl : v_pl V ≤ 80) (hln : m_len M = v_pl V) (hpd : ∀ k, k < v_pl V → m_pad M k = v_pc V k) (hst : m_st M = v_hl V) (x : Int32) : q_PM l yX5_most wsX5_most { frames := 5, cells := 0, slots := 0, locals := 116 } [.ref (d 0), .int x] (q_B g (q_mdW g d M)) (.int (mosR V x)) := by
  refine q_pm (cc := cX5_most) (maxL := 2) (ret := (some .int)) (by decide) rfl (Nat.le_of_ble_eq_true rfl) ?_
  intro p e s m args below meth c ls hx hb hml hown hts hr hlk hB hl
  obtain ⟨hP, hK, hN⟩ := hB
  have hn10 := ok_n ho
  have hl : lv_has ls 2 [(0, .ref (d 0)), (1, .int x)] := hl
  refine lv_aload_n hx hb dX5_most_0 rfl (lv_at hl 0 rfl) ?_
  refine lv_iload_n hx hb dX5_most_1 rfl (lv_at hl 1 rfl) ?_
  refine q_V (As := [.int x]) (rest := []) ⟨hx, hb, hml, hown, hts⟩ (c_X5_isTeam l g d M (v_now V) K hc ho hK5 x ) (cwV 1 hts gX5_most_X5_isTeam rfl rfl rfl (by decide +kernel) ⟨Nat.le_of_ble_eq_true rfl, Nat.le_of_ble_eq_true rfl⟩) q_B_blind (va_recv hK hP (ci := 4) (q0 := 0) rfl rfl) (q_B_of hP hK hN) rfl hl.1 rfl (Nat.le_of_ble_eq_true rfl) dX5_most_2 (Nat.zero_le _) (Nat.zero_le _) ?_
  refine lv_if_eq (tgt := 20) hx hb dX5_most_5 (by decide) (fun c_5 => ?_) (fun c_5 => ?_)
  · skip
    have c_5 : (isTm (v_now V) x) = false := bI_eq c_5
    refine lv_iconst (v := (-1)) hx hb dX5_most_20 (by decide) ?_
    exact q_iret hx hb hr hlk dX5_most_21 (by simp [mosR, c_5])
  · skip
    have c_5 : (isTm (v_now V) x) = true := bI_ne c_5
    obtain ⟨t1, ht1, ht1x, rfl⟩ := isTm_of hn10 c_5
    have ct1 : tN (nI t1) = t1 := tN_n (by omega)
    refine lv_aload_n hx hb dX5_most_8 rfl (lv_at hl 0 rfl) ?_
    refine lv_iload_n hx hb dX5_most_9 rfl (lv_at hl 1 rfl) ?_
    refine q_V (As := [.int (nI t1)]) (rest := []) ⟨hx, hb, hml, hown, hts⟩ (c_X5_reaches l g d M (v_now V) K hc ho hK5 t1 (by omega)) (cwV 1 hts gX5_most_X5_reaches rfl rfl rfl (by decide +kernel) ⟨Nat.le_of_ble_eq_true rfl, Nat.le_of_ble_eq_true rfl⟩) q_B_blind (va_recv hK hP (ci := 4) (q0 := 0) rfl rfl) (q_B_of hP hK hN) rfl hl.1 rfl (Nat.le_of_ble_eq_true rfl) dX5_most_10 (Nat.zero_le _) (Nat.zero_le _) ?_
    refine lv_sipush (v := 1000) hx hb dX5_most_13 (by decide) ?_
    refine lv_iadd hx hb dX5_most_16 ?_
    refine lv_goto (tgt := 21) hx hb dX5_most_17 (by decide) ?_
    exact q_iret hx hb hr hlk dX5_most_21 (by simp [mosR, ct1, c_5])

set_option maxHeartbeats 4000000 in
set_option maxRecDepth 100000 in
theorem c_X5_canWin (l : Launch) (g : q_G) (d : Nat → Nat) (M : q_MV) (V : q_CV) (K : Nat) (hc : q_cp (v_now V) (m_s M)) (ho : q_ok K (v_now V)) (hK5 : K ≤ 512) (hpl : v_pl V ≤ 80) (hln : m_len M = v_pl V) (hpd : ∀ k, k < v_pl V → m_pad M k = v_pc V k) (hst : m_st M = v_hl V) : q_PM l yX5_canWin wsX5_canWin { frames := 5, cells := 0, slots := 0, locals := 116 } [.ref (d 0)] (q_B g (q_mdW g d M)) (.int (canR V)) := by
  refine q_pm (cc := cX5_canWin) (maxL := 5) (ret := (some .int)) (by decide) rfl (Nat.le_of_ble_eq_true rfl) ?_
  intro p e s m args below meth c ls hx hb hml hown hts hr hlk hB hl
  obtain ⟨hP, hK, hN⟩ := hB
  have hn10 := ok_n ho
  have fl_7 := hts (.fieldLink RX5 7 "PubQuizzesModel" "s" "[I") (by decide +kernel)
  have hi_X5 : ∀ w ∈ u_ws RX5 TX5 7, w ∈ wsX5_canWin := by decide +kernel
  have hl : lv_has ls 5 [(0, .ref (d 0))] := hl
  refine lv_iconst (v := 0) hx hb dX5_canWin_0 (by decide) ?_
  refine lv_istore_n (lv' := [(1, .int 0), (0, .ref (d 0))]) hx hb dX5_canWin_1 rfl hl (by decide) rfl (fun ls hl => ?_)
  refine lv_iconst (v := 0) hx hb dX5_canWin_2 (by decide) ?_
  refine lv_istore_n (lv' := [(2, .int 0), (1, .int 0), (0, .ref (d 0))]) hx hb dX5_canWin_3 rfl hl (by decide) rfl (fun ls hl => ?_)
  have L_4 : ∀ (fu i4 : Nat) (y1_4 : Int32), y1_4 = q_or (croS (v_now V)) i4 → i4 ≤ s_n (v_now V) → s_n (v_now V) < i4 + fu → ∀ ls : Array Slot, lv_has ls 5 [(2, .int (nI i4)), (1, .int y1_4), (0, .ref (d 0))] → W p l e { frames := 5, cells := 0, slots := 0, locals := 116 } s m args below meth c s.heap [] 0 0 (MQ below (k2_QcV (.int (canR V))) args s 0 0 (fun _ => False)) (F0 m 4 ls []) := by
    intro fu
    induction fu with
    | zero => intro i4 y1_4 ey1_4 hi_i4 hn_i4; exact absurd hn_i4 (by omega)
    | succ fu ih_i4 =>
      intro i4 y1_4 ey1_4 hi_i4 hn_i4 ls hl
      subst ey1_4
      refine lv_iload_n hx hb dX5_canWin_4 rfl (lv_at hl 0 rfl) ?_
      refine lv_aload_n hx hb dX5_canWin_5 rfl (lv_at hl 2 rfl) ?_
      refine va_get (D := g.1) (ci := 4) (v := .ref (d 1)) (C := RX5) (T := TX5) (N := 7) hx hb hts hi_X5 hown hK hP 0 rfl rfl 0 (by decide) fl_7 (fun _ h9 => h9) rfl dX5_canWin_6 ?_
      refine lv_iconst (v := 4) hx hb dX5_canWin_9 (by decide) ?_
      refine q_iald (j := 4) hx hb hK hP 1 0 rfl rfl (by omega) (by decide) dX5_canWin_10 ?_
      refine q_reI (show (m_s M 4 : Int32) = nI (s_n (v_now V)) from cp_n hc) ?_
      refine lv_icmp_ge (tgt := 86) hx hb dX5_canWin_11 (by decide) (fun c_11 => ?_) (fun c_11 => ?_)
      · skip
        have e_11 : i4 = s_n (v_now V) := q_ge_T (by omega) hi_i4 c_11
        subst e_11
        refine lv_iload_n hx hb dX5_canWin_86 rfl (lv_at hl 1 rfl) ?_
        exact q_iret hx hb hr hlk dX5_canWin_87 (rfl)
      · skip
        have lt_i4 : i4 < s_n (v_now V) := q_ge_F (by omega) hi_i4 c_11
        refine lv_iconst (v := 1) hx hb dX5_canWin_14 (by decide) ?_
        refine lv_istore_n (lv' := [(3, .int 1), (2, .int (nI i4)), (1, .int (q_or (croS (v_now V)) i4)), (0, .ref (d 0))]) hx hb dX5_canWin_15 rfl hl (by decide) rfl (fun ls hl => ?_)
        refine lv_iconst (v := 0) hx hb dX5_canWin_16 (by decide) ?_
        refine lv_istore (lv' := [(4, .int 0), (3, .int 1), (2, .int (nI i4)), (1, .int (q_or (croS (v_now V)) i4)), (0, .ref (d 0))]) hx hb dX5_canWin_17 hl (by decide) rfl (fun ls hl => ?_)
        have L_19 : ∀ (fu i19 : Nat) (y3_19 : Int32), y3_19 = bI (!q_any (cro1 (v_now V) i4) i19) → i19 ≤ s_n (v_now V) → s_n (v_now V) < i19 + fu → ∀ ls : Array Slot, lv_has ls 5 [(4, .int (nI i19)), (3, .int y3_19), (2, .int (nI i4)), (1, .int (q_or (croS (v_now V)) i4)), (0, .ref (d 0))] → W p l e { frames := 5, cells := 0, slots := 0, locals := 116 } s m args below meth c s.heap [] 0 0 (MQ below (k2_QcV (.int (canR V))) args s 0 0 (fun _ => False)) (F0 m 19 ls []) := by
          intro fu
          induction fu with
          | zero => intro i19 y3_19 ey3_19 hi_i19 hn_i19; exact absurd hn_i19 (by omega)
          | succ fu ih_i19 =>
            intro i19 y3_19 ey3_19 hi_i19 hn_i19 ls hl
            subst ey3_19
            refine lv_iload hx hb dX5_canWin_19 (lv_at hl 0 rfl) ?_
            refine lv_aload_n hx hb dX5_canWin_21 rfl (lv_at hl 4 rfl) ?_
            refine va_get (D := g.1) (ci := 4) (v := .ref (d 1)) (C := RX5) (T := TX5) (N := 7) hx hb hts hi_X5 hown hK hP 0 rfl rfl 0 (by decide) fl_7 (fun _ h9 => h9) rfl dX5_canWin_22 ?_
            refine lv_iconst (v := 4) hx hb dX5_canWin_25 (by decide) ?_
            refine q_iald (j := 4) hx hb hK hP 1 0 rfl rfl (by omega) (by decide) dX5_canWin_26 ?_
            refine q_reI (show (m_s M 4 : Int32) = nI (s_n (v_now V)) from cp_n hc) ?_
            refine lv_icmp_ge (tgt := 66) hx hb dX5_canWin_27 (by decide) (fun c_27 => ?_) (fun c_27 => ?_)
            · skip
              have e_27 : i19 = s_n (v_now V) := q_ge_T (by omega) hi_i19 c_27
              subst e_27
              refine lv_iload_n hx hb dX5_canWin_66 rfl (lv_at hl 3 rfl) ?_
              refine lv_iload_n hx hb dX5_canWin_67 rfl (lv_at hl 1 rfl) ?_
              refine lv_if_eq (tgt := 77) hx hb dX5_canWin_68 (by decide) (fun c_68 => ?_) (fun c_68 => ?_)
              · skip
                have c_68 : (!q_any (cro1 (v_now V) i4) (s_n (v_now V))) = false := bI_eq c_68
                refine lv_iconst (v := 0) hx hb dX5_canWin_77 (by decide) ?_
                refine lv_ior hx hb dX5_canWin_78 ?_
                refine lv_istore_n (lv' := [(1, .int ((q_or (croS (v_now V)) i4) ||| 0)), (4, .int (nI (s_n (v_now V)))), (3, .int (bI (!q_any (cro1 (v_now V) i4) (s_n (v_now V))))), (2, .int (nI i4)), (0, .ref (d 0))]) hx hb dX5_canWin_79 rfl hl (by decide) rfl (fun ls hl => ?_)
                refine lv_iinc (v := nI (i4 + 1)) (lv' := [(2, .int (nI (i4 + 1))), (1, .int ((q_or (croS (v_now V)) i4) ||| 0)), (4, .int (nI (s_n (v_now V)))), (3, .int (bI (!q_any (cro1 (v_now V) i4) (s_n (v_now V))))), (0, .ref (d 0))]) hx hb dX5_canWin_80 hl (k := 3) rfl (nI_1 _) (by decide) rfl (fun ls hl => ?_)
                refine lv_goto (tgt := 4) hx hb dX5_canWin_83 (by decide) ?_
                exact ih_i4 (i4 + 1) ((q_or (croS (v_now V)) i4) ||| 0) (by simp [q_or, croS, c_68]) lt_i4 (by omega) ls (lv_sub hl [0, 1, 4] rfl)
              · skip
                have c_68 : (!q_any (cro1 (v_now V) i4) (s_n (v_now V))) = true := bI_ne c_68
                refine lv_iconst (v := 1) hx hb dX5_canWin_71 (by decide) ?_
                refine lv_iload_n hx hb dX5_canWin_72 rfl (lv_at hl 2 rfl) ?_
                refine lv_ishl hx hb dX5_canWin_73 ?_
                refine lv_goto (tgt := 78) hx hb dX5_canWin_74 (by decide) ?_
                refine lv_ior hx hb dX5_canWin_78 ?_
                refine lv_istore_n (lv' := [(1, .int ((q_or (croS (v_now V)) i4) ||| (1 <<< ((nI i4) &&& 31)))), (4, .int (nI (s_n (v_now V)))), (3, .int (bI (!q_any (cro1 (v_now V) i4) (s_n (v_now V))))), (2, .int (nI i4)), (0, .ref (d 0))]) hx hb dX5_canWin_79 rfl hl (by decide) rfl (fun ls hl => ?_)
                refine lv_iinc (v := nI (i4 + 1)) (lv' := [(2, .int (nI (i4 + 1))), (1, .int ((q_or (croS (v_now V)) i4) ||| (1 <<< ((nI i4) &&& 31)))), (4, .int (nI (s_n (v_now V)))), (3, .int (bI (!q_any (cro1 (v_now V) i4) (s_n (v_now V))))), (0, .ref (d 0))]) hx hb dX5_canWin_80 hl (k := 3) rfl (nI_1 _) (by decide) rfl (fun ls hl => ?_)
                refine lv_goto (tgt := 4) hx hb dX5_canWin_83 (by decide) ?_
                exact ih_i4 (i4 + 1) ((q_or (croS (v_now V)) i4) ||| (1 <<< ((nI i4) &&& 31))) (by simp [q_or, croS, c_68]) lt_i4 (by omega) ls (lv_sub hl [0, 1, 4] rfl)
            · skip
              have lt_i19 : i19 < s_n (v_now V) := q_ge_F (by omega) hi_i19 c_27
              refine lv_iload_n hx hb dX5_canWin_30 rfl (lv_at hl 1 rfl) ?_
              refine lv_if_eq (tgt := 58) hx hb dX5_canWin_31 (by decide) (fun c_31 => ?_) (fun c_31 => ?_)
              · skip
                have c_31 : (!q_any (cro1 (v_now V) i4) i19) = false := bI_eq c_31
                refine lv_iconst (v := 0) hx hb dX5_canWin_58 (by decide) ?_
                refine lv_istore_n (lv' := [(3, .int 0), (4, .int (nI i19)), (2, .int (nI i4)), (1, .int (q_or (croS (v_now V)) i4)), (0, .ref (d 0))]) hx hb dX5_canWin_59 rfl hl (by decide) rfl (fun ls hl => ?_)
                refine lv_iinc (v := nI (i19 + 1)) (lv' := [(4, .int (nI (i19 + 1))), (3, .int 0), (2, .int (nI i4)), (1, .int (q_or (croS (v_now V)) i4)), (0, .ref (d 0))]) hx hb dX5_canWin_60 hl (k := 1) rfl (nI_1 _) (by decide) rfl (fun ls hl => ?_)
                refine lv_goto (tgt := 19) hx hb dX5_canWin_63 (by decide) ?_
                exact ih_i19 (i19 + 1) 0 (by simp [q_any, cro1, bI, c_31]) lt_i19 (by omega) ls (lv_sub hl [0, 1, 2, 3, 4] rfl)
              · skip
                have c_31 : (!q_any (cro1 (v_now V) i4) i19) = true := bI_ne c_31
                refine lv_iload hx hb dX5_canWin_34 (lv_at hl 0 rfl) ?_
                refine lv_iload_n hx hb dX5_canWin_36 rfl (lv_at hl 2 rfl) ?_
                refine lv_icmp_eq (tgt := 54) hx hb dX5_canWin_37 (by decide) (fun c_37 => ?_) (fun c_37 => ?_)
                · skip
                  refine lv_iconst (v := 1) hx hb dX5_canWin_54 (by decide) ?_
                  refine lv_goto (tgt := 59) hx hb dX5_canWin_55 (by decide) ?_
                  refine lv_istore_n (lv' := [(3, .int 1), (4, .int (nI i19)), (2, .int (nI i4)), (1, .int (q_or (croS (v_now V)) i4)), (0, .ref (d 0))]) hx hb dX5_canWin_59 rfl hl (by decide) rfl (fun ls hl => ?_)
                  refine lv_iinc (v := nI (i19 + 1)) (lv' := [(4, .int (nI (i19 + 1))), (3, .int 1), (2, .int (nI i4)), (1, .int (q_or (croS (v_now V)) i4)), (0, .ref (d 0))]) hx hb dX5_canWin_60 hl (k := 1) rfl (nI_1 _) (by decide) rfl (fun ls hl => ?_)
                  refine lv_goto (tgt := 19) hx hb dX5_canWin_63 (by decide) ?_
                  exact ih_i19 (i19 + 1) 1 (by simp [q_any, cro1, bI, c_31, c_37]) lt_i19 (by omega) ls (lv_sub hl [0, 1, 2, 3, 4] rfl)
                · skip
                  refine lv_aload_n hx hb dX5_canWin_40 rfl (lv_at hl 4 rfl) ?_
                  refine lv_iload_n hx hb dX5_canWin_41 rfl (lv_at hl 2 rfl) ?_
                  refine q_V (As := [.int (nI i4)]) (rest := []) ⟨hx, hb, hml, hown, hts⟩ (c_X5_reaches l g d M (v_now V) K hc ho hK5 i4 (by omega)) (cwV 1 hts gX5_canWin_X5_reaches rfl rfl rfl (by decide +kernel) ⟨Nat.le_of_ble_eq_true rfl, Nat.le_of_ble_eq_true rfl⟩) q_B_blind (va_recv hK hP (ci := 4) (q0 := 0) rfl rfl) (q_B_of hP hK hN) rfl hl.1 rfl (Nat.le_of_ble_eq_true rfl) dX5_canWin_42 (Nat.zero_le _) (Nat.zero_le _) ?_
                  refine lv_aload_n hx hb dX5_canWin_45 rfl (lv_at hl 4 rfl) ?_
                  refine lv_iload hx hb dX5_canWin_46 (lv_at hl 0 rfl) ?_
                  refine q_V (As := [.int (nI i19)]) (rest := [.int (gscS (v_now V) i4)]) ⟨hx, hb, hml, hown, hts⟩ (c_X5_score l g d M (v_now V) K hc ho hK5 i19 (by omega)) (cwV 1 hts gX5_canWin_X5_score rfl rfl rfl (by decide +kernel) ⟨Nat.le_of_ble_eq_true rfl, Nat.le_of_ble_eq_true rfl⟩) q_B_blind (va_recv hK hP (ci := 4) (q0 := 0) rfl rfl) (q_B_of hP hK hN) rfl hl.1 rfl (Nat.le_of_ble_eq_true rfl) dX5_canWin_48 (Nat.zero_le _) (Nat.zero_le _) ?_
                  refine lv_icmp_lt (tgt := 58) hx hb dX5_canWin_51 (by decide) (fun c_51 => ?_) (fun c_51 => ?_)
                  · skip
                    have c_51 := Int32.not_le.mpr c_51
                    refine lv_iconst (v := 0) hx hb dX5_canWin_58 (by decide) ?_
                    refine lv_istore_n (lv' := [(3, .int 0), (4, .int (nI i19)), (2, .int (nI i4)), (1, .int (q_or (croS (v_now V)) i4)), (0, .ref (d 0))]) hx hb dX5_canWin_59 rfl hl (by decide) rfl (fun ls hl => ?_)
                    refine lv_iinc (v := nI (i19 + 1)) (lv' := [(4, .int (nI (i19 + 1))), (3, .int 0), (2, .int (nI i4)), (1, .int (q_or (croS (v_now V)) i4)), (0, .ref (d 0))]) hx hb dX5_canWin_60 hl (k := 1) rfl (nI_1 _) (by decide) rfl (fun ls hl => ?_)
                    refine lv_goto (tgt := 19) hx hb dX5_canWin_63 (by decide) ?_
                    exact ih_i19 (i19 + 1) 0 (by simp [q_any, cro1, bI, c_31, c_37, c_51]) lt_i19 (by omega) ls (lv_sub hl [0, 1, 2, 3, 4] rfl)
                  · skip
                    have c_51 := Int32.not_lt.mp c_51
                    refine lv_iconst (v := 1) hx hb dX5_canWin_54 (by decide) ?_
                    refine lv_goto (tgt := 59) hx hb dX5_canWin_55 (by decide) ?_
                    refine lv_istore_n (lv' := [(3, .int 1), (4, .int (nI i19)), (2, .int (nI i4)), (1, .int (q_or (croS (v_now V)) i4)), (0, .ref (d 0))]) hx hb dX5_canWin_59 rfl hl (by decide) rfl (fun ls hl => ?_)
                    refine lv_iinc (v := nI (i19 + 1)) (lv' := [(4, .int (nI (i19 + 1))), (3, .int 1), (2, .int (nI i4)), (1, .int (q_or (croS (v_now V)) i4)), (0, .ref (d 0))]) hx hb dX5_canWin_60 hl (k := 1) rfl (nI_1 _) (by decide) rfl (fun ls hl => ?_)
                    refine lv_goto (tgt := 19) hx hb dX5_canWin_63 (by decide) ?_
                    exact ih_i19 (i19 + 1) 1 (by simp [q_any, cro1, bI, c_31, c_37, c_51]) lt_i19 (by omega) ls (lv_sub hl [0, 1, 2, 3, 4] rfl)
        exact L_19 (s_n (v_now V) + 1) 0 1 (rfl) (Nat.zero_le _) (by omega) ls (lv_sub hl [0, 1, 2, 3, 4] rfl)
  exact L_4 (s_n (v_now V) + 1) 0 0 (rfl) (Nat.zero_le _) (by omega) ls (lv_sub hl [0, 1, 2] rfl)

set_option maxHeartbeats 4000000 in
set_option maxRecDepth 100000 in
theorem c_X5_ifLooked (l : Launch) (g : q_G) (d : Nat → Nat) (M : q_MV) (V : q_CV) (K : Nat) (hc : q_cp (v_now V) (m_s M)) (ho : q_ok K (v_now V)) (hK5 : K ≤ 512) (hpl : v_pl V ≤ 80) (hln : m_len M = v_pl V) (hpd : ∀ k, k < v_pl V → m_pad M k = v_pc V k) (hst : m_st M = v_hl V) (x : Int32) : q_PM l yX5_ifLooked wsX5_ifLooked { frames := 4, cells := 0, slots := 0, locals := 89 } [.ref (d 0), .int x] (q_B g (q_mdW g d M)) (.int (iflR V x)) := by
  refine q_pm (cc := cX5_ifLooked) (maxL := 6) (ret := (some .int)) (by decide) rfl (Nat.le_of_ble_eq_true rfl) ?_
  intro p e s m args below meth c ls hx hb hml hown hts hr hlk hB hl
  obtain ⟨hP, hK, hN⟩ := hB
  have hn10 := ok_n ho
  have fl_7 := hts (.fieldLink RX5 7 "PubQuizzesModel" "s" "[I") (by decide +kernel)
  have hi_X5 : ∀ w ∈ u_ws RX5 TX5 7, w ∈ wsX5_ifLooked := by decide +kernel
  have hl : lv_has ls 6 [(0, .ref (d 0)), (1, .int x)] := hl
  refine lv_aload_n hx hb dX5_ifLooked_0 rfl (lv_at hl 0 rfl) ?_
  refine lv_iload_n hx hb dX5_ifLooked_1 rfl (lv_at hl 1 rfl) ?_
  refine q_V (As := [.int x]) (rest := []) ⟨hx, hb, hml, hown, hts⟩ (c_X5_isTeam l g d M (v_now V) K hc ho hK5 x ) (cwV 1 hts gX5_ifLooked_X5_isTeam rfl rfl rfl (by decide +kernel) ⟨Nat.le_of_ble_eq_true rfl, Nat.le_of_ble_eq_true rfl⟩) q_B_blind (va_recv hK hP (ci := 4) (q0 := 0) rfl rfl) (q_B_of hP hK hN) rfl hl.1 rfl (Nat.le_of_ble_eq_true rfl) dX5_ifLooked_2 (Nat.zero_le _) (Nat.zero_le _) ?_
  refine lv_if_ne (tgt := 10) hx hb dX5_ifLooked_5 (by decide) (fun c_5 => ?_) (fun c_5 => ?_)
  · skip
    have c_5 : (isTm (v_now V) x) = true := bI_ne c_5
    obtain ⟨t1, ht1, ht1x, rfl⟩ := isTm_of hn10 c_5
    have ct1 : tN (nI t1) = t1 := tN_n (by omega)
    refine lv_aload_n hx hb dX5_ifLooked_10 rfl (lv_at hl 0 rfl) ?_
    refine lv_iload_n hx hb dX5_ifLooked_11 rfl (lv_at hl 1 rfl) ?_
    refine q_V (As := [.int (nI t1)]) (rest := []) ⟨hx, hb, hml, hown, hts⟩ (c_X5_score l g d M (v_now V) K hc ho hK5 t1 (by omega)) (cwV 1 hts gX5_ifLooked_X5_score rfl rfl rfl (by decide +kernel) ⟨Nat.le_of_ble_eq_true rfl, Nat.le_of_ble_eq_true rfl⟩) q_B_blind (va_recv hK hP (ci := 4) (q0 := 0) rfl rfl) (q_B_of hP hK hN) rfl hl.1 rfl (Nat.le_of_ble_eq_true rfl) dX5_ifLooked_12 (Nat.zero_le _) (Nat.zero_le _) ?_
    refine lv_istore_n (lv' := [(2, .int (scoS (v_now V) t1)), (0, .ref (d 0)), (1, .int (nI t1))]) hx hb dX5_ifLooked_15 rfl hl (by decide) rfl (fun ls hl => ?_)
    refine lv_iconst (v := 0) hx hb dX5_ifLooked_16 (by decide) ?_
    refine lv_istore_n (lv' := [(3, .int 0), (2, .int (scoS (v_now V) t1)), (0, .ref (d 0)), (1, .int (nI t1))]) hx hb dX5_ifLooked_17 rfl hl (by decide) rfl (fun ls hl => ?_)
    have L_18 : ∀ (fu i18 : Nat) (y2_18 : Int32), y2_18 = q_acc (scoS (v_now V) t1) (iflk (v_now V) t1) i18 → i18 ≤ 8 * s_n (v_now V) → 8 * s_n (v_now V) < i18 + fu → ∀ ls : Array Slot, lv_has ls 6 [(3, .int (nI i18)), (2, .int y2_18), (0, .ref (d 0)), (1, .int (nI t1))] → W p l e { frames := 4, cells := 0, slots := 0, locals := 89 } s m args below meth c s.heap [] 0 0 (MQ below (k2_QcV (.int (iflR V (nI t1)))) args s 0 0 (fun _ => False)) (F0 m 18 ls []) := by
      intro fu
      induction fu with
      | zero => intro i18 y2_18 ey2_18 hi_i18 hn_i18; exact absurd hn_i18 (by omega)
      | succ fu ih_i18 =>
        intro i18 y2_18 ey2_18 hi_i18 hn_i18 ls hl
        subst ey2_18
        refine lv_iload_n hx hb dX5_ifLooked_18 rfl (lv_at hl 0 rfl) ?_
        refine lv_bipush (v := 8) hx hb dX5_ifLooked_19 (by decide) ?_
        refine lv_aload_n hx hb dX5_ifLooked_21 rfl (lv_at hl 2 rfl) ?_
        refine va_get (D := g.1) (ci := 4) (v := .ref (d 1)) (C := RX5) (T := TX5) (N := 7) hx hb hts hi_X5 hown hK hP 0 rfl rfl 0 (by decide) fl_7 (fun _ h9 => h9) rfl dX5_ifLooked_22 ?_
        refine lv_iconst (v := 4) hx hb dX5_ifLooked_25 (by decide) ?_
        refine q_iald (j := 4) hx hb hK hP 1 0 rfl rfl (by omega) (by decide) dX5_ifLooked_26 ?_
        refine q_reI (show (m_s M 4 : Int32) = nI (s_n (v_now V)) from cp_n hc) ?_
        refine lv_imul hx hb dX5_ifLooked_27 ?_
        refine q_reI (show ((8 * (nI (s_n (v_now V)))) : Int32) = nI (8 * (s_n (v_now V))) from pk_mul _ _) ?_
        refine lv_icmp_ge (tgt := 155) hx hb dX5_ifLooked_28 (by decide) (fun c_28 => ?_) (fun c_28 => ?_)
        · skip
          have e_28 : i18 = 8 * s_n (v_now V) := q_ge_T (by omega) hi_i18 c_28
          subst e_28
          refine lv_iload_n hx hb dX5_ifLooked_155 rfl (lv_at hl 1 rfl) ?_
          refine lv_sipush (v := 1000) hx hb dX5_ifLooked_156 (by decide) ?_
          refine lv_iadd hx hb dX5_ifLooked_159 ?_
          exact q_iret hx hb hr hlk dX5_ifLooked_160 (by rw [ifl_all ht1 hn10]; simp [iflR, ct1, c_5])
        · skip
          have lt_i18 : i18 < 8 * s_n (v_now V) := q_ge_F (by omega) hi_i18 c_28
          refine lv_iload_n hx hb dX5_ifLooked_31 rfl (lv_at hl 0 rfl) ?_
          refine lv_bipush (v := 8) hx hb dX5_ifLooked_32 (by decide) ?_
          refine lv_idiv hx hb dX5_ifLooked_34 (by decide) ?_
          refine q_reI (show (((nI i18) / 8) : Int32) = nI (i18 / 8) from pk_div (a := i18) (d := 8) (by omega) (by decide) (by decide)) ?_
          refine lv_iload_n hx hb dX5_ifLooked_35 rfl (lv_at hl 0 rfl) ?_
          refine lv_bipush (v := 8) hx hb dX5_ifLooked_36 (by decide) ?_
          refine lv_irem hx hb dX5_ifLooked_38 (by decide) ?_
          refine q_reI (show (((nI i18) - (nI i18) / 8 * 8) : Int32) = nI (i18 % 8) from pk_rem (a := i18) (d := 8) (by omega) (by decide) (by decide)) ?_
          refine q_S (As := [.int (nI (i18 / 8)), .int (nI (i18 % 8))]) (rest := []) ⟨hx, hb, hml, hown, hts⟩ (c_X5_h l (i18 / 8) (i18 % 8) ) (va_cwS 2 hts gX5_ifLooked_X5_h rfl rfl rfl (by decide +kernel) ⟨Nat.le_of_ble_eq_true rfl, Nat.le_of_ble_eq_true rfl⟩) q_Blind_t (fun _ _ _ => trivial) rfl hl.1 rfl (Nat.le_of_ble_eq_true rfl) dX5_ifLooked_39 (Nat.zero_le _) (Nat.zero_le _) ?_
          refine lv_istore (lv' := [(4, .int (nI (136 + 15 * ((i18 / 8) * 8 + (i18 % 8))))), (3, .int (nI i18)), (2, .int (q_acc (scoS (v_now V) t1) (iflk (v_now V) t1) i18)), (0, .ref (d 0)), (1, .int (nI t1))]) hx hb dX5_ifLooked_42 hl (by decide) rfl (fun ls hl => ?_)
          refine lv_aload_n hx hb dX5_ifLooked_44 rfl (lv_at hl 3 rfl) ?_
          refine lv_iload_n hx hb dX5_ifLooked_45 rfl (lv_at hl 1 rfl) ?_
          refine lv_bipush (v := 8) hx hb dX5_ifLooked_46 (by decide) ?_
          refine lv_idiv hx hb dX5_ifLooked_48 (by decide) ?_
          refine q_reI (show (((nI i18) / 8) : Int32) = nI (i18 / 8) from pk_div (a := i18) (d := 8) (by omega) (by decide) (by decide)) ?_
          refine lv_iload_n hx hb dX5_ifLooked_49 rfl (lv_at hl 1 rfl) ?_
          refine lv_bipush (v := 8) hx hb dX5_ifLooked_50 (by decide) ?_
          refine lv_irem hx hb dX5_ifLooked_52 (by decide) ?_
          refine q_reI (show (((nI i18) - (nI i18) / 8 * 8) : Int32) = nI (i18 % 8) from pk_rem (a := i18) (d := 8) (by omega) (by decide) (by decide)) ?_
          refine q_V (As := [.int (nI (i18 / 8)), .int (nI (i18 % 8))]) (rest := []) ⟨hx, hb, hml, hown, hts⟩ (c_X5_isWrong l g d M (v_now V) K hc ho hK5 (i18 / 8) (i18 % 8) (by omega) (by omega)) (cwV 2 hts gX5_ifLooked_X5_isWrong rfl rfl rfl (by decide +kernel) ⟨Nat.le_of_ble_eq_true rfl, Nat.le_of_ble_eq_true rfl⟩) q_B_blind (va_recv hK hP (ci := 4) (q0 := 0) rfl rfl) (q_B_of hP hK hN) rfl hl.1 rfl (Nat.le_of_ble_eq_true rfl) dX5_ifLooked_53 (Nat.zero_le _) (Nat.zero_le _) ?_
          refine lv_if_eq (tgt := 149) hx hb dX5_ifLooked_56 (by decide) (fun c_56 => ?_) (fun c_56 => ?_)
          · skip
            have c_56 : (wroS (v_now V) (i18 / 8) (i18 % 8)) = false := bI_eq c_56
            refine lv_iinc (v := nI (i18 + 1)) (lv' := [(3, .int (nI (i18 + 1))), (4, .int (nI (136 + 15 * ((i18 / 8) * 8 + (i18 % 8))))), (2, .int (q_acc (scoS (v_now V) t1) (iflk (v_now V) t1) i18)), (0, .ref (d 0)), (1, .int (nI t1))]) hx hb dX5_ifLooked_149 hl (k := 1) rfl (nI_1 _) (by decide) rfl (fun ls hl => ?_)
            refine lv_goto (tgt := 18) hx hb dX5_ifLooked_152 (by decide) ?_
            exact ih_i18 (i18 + 1) (q_acc (scoS (v_now V) t1) (iflk (v_now V) t1) i18) (by first | (simp only [q_acc, iflk, wflS, if_pos ct1, if_pos c_5, if_neg (Bool.eq_false_iff.mp c_56)]; exact i32_s _ _ _) | (simp [q_acc, iflk, wflS, ct1, c_5, c_56]; done)) lt_i18 (by omega) ls (lv_sub hl [0, 2, 3, 4] rfl)
          · skip
            have c_56 : (wroS (v_now V) (i18 / 8) (i18 % 8)) = true := bI_ne c_56
            refine lv_aload_n hx hb dX5_ifLooked_59 rfl (lv_at hl 3 rfl) ?_
            refine va_get (D := g.1) (ci := 4) (v := .ref (d 1)) (C := RX5) (T := TX5) (N := 7) hx hb hts hi_X5 hown hK hP 0 rfl rfl 0 (by decide) fl_7 (fun _ h9 => h9) rfl dX5_ifLooked_60 ?_
            refine lv_iload_n hx hb dX5_ifLooked_63 rfl (lv_at hl 4 rfl) ?_
            refine q_S (As := [.int (nI t1)]) (rest := [.ref (d 1)]) ⟨hx, hb, hml, hown, hts⟩ (c_X5_t l t1 ) (va_cwS 1 hts gX5_ifLooked_X5_t rfl rfl rfl (by decide +kernel) ⟨Nat.le_of_ble_eq_true rfl, Nat.le_of_ble_eq_true rfl⟩) q_Blind_t (fun _ _ _ => trivial) rfl hl.1 rfl (Nat.le_of_ble_eq_true rfl) dX5_ifLooked_64 (Nat.zero_le _) (Nat.zero_le _) ?_
            refine lv_iconst (v := 1) hx hb dX5_ifLooked_67 (by decide) ?_
            refine lv_iadd hx hb dX5_ifLooked_68 ?_
            refine q_reI (show (((nI (96 + 4 * t1)) + 1) : Int32) = nI (96 + 4 * t1 + 1) from nI_add _ _) ?_
            refine q_iald (j := (96 + 4 * t1 + 1)) hx hb hK hP 1 0 rfl rfl (by omega) (by decide) dX5_ifLooked_69 ?_
            refine q_reI (show (m_s M (96 + 4 * t1 + 1) : Int32) = jkI (s_jok (v_now V) t1) from cp_jok hc (t := t1) (by omega)) ?_
            refine lv_iload_n hx hb dX5_ifLooked_70 rfl (lv_at hl 1 rfl) ?_
            refine lv_bipush (v := 8) hx hb dX5_ifLooked_71 (by decide) ?_
            refine lv_irem hx hb dX5_ifLooked_73 (by decide) ?_
            refine q_reI (show (((nI i18) - (nI i18) / 8 * 8) : Int32) = nI (i18 % 8) from pk_rem (a := i18) (d := 8) (by omega) (by decide) (by decide)) ?_
            refine lv_iconst (v := 1) hx hb dX5_ifLooked_74 (by decide) ?_
            refine lv_iadd hx hb dX5_ifLooked_75 ?_
            refine q_reI (show (((nI (i18 % 8)) + 1) : Int32) = nI (i18 % 8 + 1) from nI_add _ _) ?_
            refine lv_icmp_ne (tgt := 83) hx hb dX5_ifLooked_76 (by decide) (fun c_76 => ?_) (fun c_76 => ?_)
            · skip
              have c_76 := jk_f (by omega) c_76
              refine lv_iconst (v := 1) hx hb dX5_ifLooked_83 (by decide) ?_
              refine lv_istore (lv' := [(5, .int 1), (4, .int (nI (136 + 15 * ((i18 / 8) * 8 + (i18 % 8))))), (3, .int (nI i18)), (2, .int (q_acc (scoS (v_now V) t1) (iflk (v_now V) t1) i18)), (0, .ref (d 0)), (1, .int (nI t1))]) hx hb dX5_ifLooked_84 hl (by decide) rfl (fun ls hl => ?_)
              refine lv_iload_n hx hb dX5_ifLooked_86 rfl (lv_at hl 3 rfl) ?_
              refine lv_iload_n hx hb dX5_ifLooked_87 rfl (lv_at hl 2 rfl) ?_
              refine lv_bipush (v := 8) hx hb dX5_ifLooked_88 (by decide) ?_
              refine lv_idiv hx hb dX5_ifLooked_90 (by decide) ?_
              refine q_reI (show (((nI i18) / 8) : Int32) = nI (i18 / 8) from pk_div (a := i18) (d := 8) (by omega) (by decide) (by decide)) ?_
              refine lv_iload_n hx hb dX5_ifLooked_91 rfl (lv_at hl 5 rfl) ?_
              refine lv_icmp_ne (tgt := 120) hx hb dX5_ifLooked_92 (by decide) (fun c_92 => ?_) (fun c_92 => ?_)
              · skip
                refine lv_iconst (v := 0) hx hb dX5_ifLooked_120 (by decide) ?_
                refine lv_iadd hx hb dX5_ifLooked_121 ?_
                refine lv_istore_n (lv' := [(2, .int ((q_acc (scoS (v_now V) t1) (iflk (v_now V) t1) i18) + 0)), (5, .int 1), (4, .int (nI (136 + 15 * ((i18 / 8) * 8 + (i18 % 8))))), (3, .int (nI i18)), (0, .ref (d 0)), (1, .int (nI t1))]) hx hb dX5_ifLooked_122 rfl hl (by decide) rfl (fun ls hl => ?_)
                refine lv_iload_n hx hb dX5_ifLooked_123 rfl (lv_at hl 0 rfl) ?_
                refine lv_aload_n hx hb dX5_ifLooked_124 rfl (lv_at hl 4 rfl) ?_
                refine va_get (D := g.1) (ci := 4) (v := .ref (d 1)) (C := RX5) (T := TX5) (N := 7) hx hb hts hi_X5 hown hK hP 0 rfl rfl 0 (by decide) fl_7 (fun _ h9 => h9) rfl dX5_ifLooked_125 ?_
                refine lv_iload hx hb dX5_ifLooked_128 (lv_at hl 2 rfl) ?_
                refine lv_iconst (v := 3) hx hb dX5_ifLooked_130 (by decide) ?_
                refine lv_iadd hx hb dX5_ifLooked_131 ?_
                refine q_reI (show (((nI (136 + 15 * ((i18 / 8) * 8 + (i18 % 8)))) + 3) : Int32) = nI (136 + 15 * ((i18 / 8) * 8 + (i18 % 8)) + 3) from nI_add _ _) ?_
                refine q_iald (j := (136 + 15 * ((i18 / 8) * 8 + (i18 % 8)) + 3)) hx hb hK hP 1 0 rfl rfl (by omega) (by decide) dX5_ifLooked_132 ?_
                refine q_reI (show (m_s M (136 + 15 * ((i18 / 8) * 8 + (i18 % 8)) + 3) : Int32) = s_mkr (v_now V) ((i18 / 8) * 8 + (i18 % 8)) from cp_mkr hc (t := (i18 / 8)) (r := (i18 % 8)) (by omega) (by omega) (wro_t c_56)) ?_
                refine lv_iload_n hx hb dX5_ifLooked_133 rfl (lv_at hl 5 rfl) ?_
                refine lv_icmp_ne (tgt := 146) hx hb dX5_ifLooked_134 (by decide) (fun c_134 => ?_) (fun c_134 => ?_)
                · skip
                  refine lv_iconst (v := 0) hx hb dX5_ifLooked_146 (by decide) ?_
                  refine lv_isub hx hb dX5_ifLooked_147 ?_
                  refine lv_istore_n (lv' := [(2, .int (((q_acc (scoS (v_now V) t1) (iflk (v_now V) t1) i18) + 0) - 0)), (5, .int 1), (4, .int (nI (136 + 15 * ((i18 / 8) * 8 + (i18 % 8))))), (3, .int (nI i18)), (0, .ref (d 0)), (1, .int (nI t1))]) hx hb dX5_ifLooked_148 rfl hl (by decide) rfl (fun ls hl => ?_)
                  refine lv_iinc (v := nI (i18 + 1)) (lv' := [(3, .int (nI (i18 + 1))), (2, .int (((q_acc (scoS (v_now V) t1) (iflk (v_now V) t1) i18) + 0) - 0)), (5, .int 1), (4, .int (nI (136 + 15 * ((i18 / 8) * 8 + (i18 % 8))))), (0, .ref (d 0)), (1, .int (nI t1))]) hx hb dX5_ifLooked_149 hl (k := 3) rfl (nI_1 _) (by decide) rfl (fun ls hl => ?_)
                  refine lv_goto (tgt := 18) hx hb dX5_ifLooked_152 (by decide) ?_
                  exact ih_i18 (i18 + 1) (((q_acc (scoS (v_now V) t1) (iflk (v_now V) t1) i18) + 0) - 0) (by first | (simp only [q_acc, iflk, wflS, if_pos ct1, if_pos c_5, if_pos c_56, if_neg c_76, if_neg c_92, if_neg c_134]; exact i32_s _ _ _) | (simp [q_acc, iflk, wflS, ct1, c_5, c_56, c_76, c_92, c_134]; done)) lt_i18 (by omega) ls (lv_sub hl [0, 1, 4, 5] rfl)
                · skip
                  refine lv_aload_n hx hb dX5_ifLooked_137 rfl (lv_at hl 4 rfl) ?_
                  refine va_get (D := g.1) (ci := 4) (v := .ref (d 1)) (C := RX5) (T := TX5) (N := 7) hx hb hts hi_X5 hown hK hP 0 rfl rfl 0 (by decide) fl_7 (fun _ h9 => h9) rfl dX5_ifLooked_138 ?_
                  refine lv_iconst (v := 3) hx hb dX5_ifLooked_141 (by decide) ?_
                  refine q_iald (j := 3) hx hb hK hP 1 0 rfl rfl (by omega) (by decide) dX5_ifLooked_142 ?_
                  refine q_reI (show (m_s M 3 : Int32) = s_set (v_now V) 3 from cp_set hc (k := 3) (by omega)) ?_
                  refine lv_goto (tgt := 147) hx hb dX5_ifLooked_143 (by decide) ?_
                  refine lv_isub hx hb dX5_ifLooked_147 ?_
                  refine lv_istore_n (lv' := [(2, .int (((q_acc (scoS (v_now V) t1) (iflk (v_now V) t1) i18) + 0) - (s_set (v_now V) 3))), (5, .int 1), (4, .int (nI (136 + 15 * ((i18 / 8) * 8 + (i18 % 8))))), (3, .int (nI i18)), (0, .ref (d 0)), (1, .int (nI t1))]) hx hb dX5_ifLooked_148 rfl hl (by decide) rfl (fun ls hl => ?_)
                  refine lv_iinc (v := nI (i18 + 1)) (lv' := [(3, .int (nI (i18 + 1))), (2, .int (((q_acc (scoS (v_now V) t1) (iflk (v_now V) t1) i18) + 0) - (s_set (v_now V) 3))), (5, .int 1), (4, .int (nI (136 + 15 * ((i18 / 8) * 8 + (i18 % 8))))), (0, .ref (d 0)), (1, .int (nI t1))]) hx hb dX5_ifLooked_149 hl (k := 3) rfl (nI_1 _) (by decide) rfl (fun ls hl => ?_)
                  refine lv_goto (tgt := 18) hx hb dX5_ifLooked_152 (by decide) ?_
                  exact ih_i18 (i18 + 1) (((q_acc (scoS (v_now V) t1) (iflk (v_now V) t1) i18) + 0) - (s_set (v_now V) 3)) (by first | (simp only [q_acc, iflk, wflS, if_pos ct1, if_pos c_5, if_pos c_56, if_neg c_76, if_neg c_92, if_pos c_134]; exact i32_s _ _ _) | (simp [q_acc, iflk, wflS, ct1, c_5, c_56, c_76, c_92, c_134]; done)) lt_i18 (by omega) ls (lv_sub hl [0, 1, 4, 5] rfl)
              · skip
                have e92 : i18 / 8 = t1 := (nI_eq (by omega) (by omega)).mp c_92
                refine lv_iload hx hb dX5_ifLooked_95 (lv_at hl 0 rfl) ?_
                refine lv_aload_n hx hb dX5_ifLooked_97 rfl (lv_at hl 4 rfl) ?_
                refine lv_iload_n hx hb dX5_ifLooked_98 rfl (lv_at hl 5 rfl) ?_
                refine lv_iload_n hx hb dX5_ifLooked_99 rfl (lv_at hl 2 rfl) ?_
                refine lv_bipush (v := 8) hx hb dX5_ifLooked_100 (by decide) ?_
                refine lv_irem hx hb dX5_ifLooked_102 (by decide) ?_
                refine q_reI (show (((nI i18) - (nI i18) / 8 * 8) : Int32) = nI (i18 % 8) from pk_rem (a := i18) (d := 8) (by omega) (by decide) (by decide)) ?_
                refine q_V (As := [.int (nI t1), .int (nI (i18 % 8))]) (rest := [.int 1, .int (q_acc (scoS (v_now V) t1) (iflk (v_now V) t1) i18)]) ⟨hx, hb, hml, hown, hts⟩ (c_X5_trueMark l g d M (v_now V) K hc ho hK5 t1 (i18 % 8) (by omega) (by omega) (by rw [← e92]; exact ok_th ho (by omega) (by omega) (wro_t c_56)) (ok_to ho (t := i18 / 8) (by omega) (by omega) (wro_t c_56))) (cwV 2 hts gX5_ifLooked_X5_trueMark rfl rfl rfl (by decide +kernel) ⟨Nat.le_of_ble_eq_true rfl, Nat.le_of_ble_eq_true rfl⟩) q_B_blind (va_recv hK hP (ci := 4) (q0 := 0) rfl rfl) (q_B_of hP hK hN) rfl hl.1 rfl (Nat.le_of_ble_eq_true rfl) dX5_ifLooked_103 (Nat.zero_le _) (Nat.zero_le _) ?_
                refine lv_aload_n hx hb dX5_ifLooked_106 rfl (lv_at hl 4 rfl) ?_
                refine va_get (D := g.1) (ci := 4) (v := .ref (d 1)) (C := RX5) (T := TX5) (N := 7) hx hb hts hi_X5 hown hK hP 0 rfl rfl 0 (by decide) fl_7 (fun _ h9 => h9) rfl dX5_ifLooked_107 ?_
                refine lv_iload hx hb dX5_ifLooked_110 (lv_at hl 1 rfl) ?_
                refine lv_iconst (v := 2) hx hb dX5_ifLooked_112 (by decide) ?_
                refine lv_iadd hx hb dX5_ifLooked_113 ?_
                refine q_reI (show (((nI (136 + 15 * ((i18 / 8) * 8 + (i18 % 8)))) + 2) : Int32) = nI (136 + 15 * ((i18 / 8) * 8 + (i18 % 8)) + 2) from nI_add _ _) ?_
                refine q_iald (j := (136 + 15 * ((i18 / 8) * 8 + (i18 % 8)) + 2)) hx hb hK hP 1 0 rfl rfl (by omega) (by decide) dX5_ifLooked_114 ?_
                refine q_reI (show (m_s M (136 + 15 * ((i18 / 8) * 8 + (i18 % 8)) + 2) : Int32) = s_mar (v_now V) ((i18 / 8) * 8 + (i18 % 8)) from cp_mar hc (t := (i18 / 8)) (r := (i18 % 8)) (by omega) (by omega) (wro_t c_56)) ?_
                refine lv_isub hx hb dX5_ifLooked_115 ?_
                refine lv_imul hx hb dX5_ifLooked_116 ?_
                refine lv_goto (tgt := 121) hx hb dX5_ifLooked_117 (by decide) ?_
                refine lv_iadd hx hb dX5_ifLooked_121 ?_
                refine lv_istore_n (lv' := [(2, .int ((q_acc (scoS (v_now V) t1) (iflk (v_now V) t1) i18) + (1 * ((truM (v_now V) t1 (i18 % 8)) - (s_mar (v_now V) ((i18 / 8) * 8 + (i18 % 8))))))), (5, .int 1), (4, .int (nI (136 + 15 * ((i18 / 8) * 8 + (i18 % 8))))), (3, .int (nI i18)), (0, .ref (d 0)), (1, .int (nI t1))]) hx hb dX5_ifLooked_122 rfl hl (by decide) rfl (fun ls hl => ?_)
                refine lv_iload_n hx hb dX5_ifLooked_123 rfl (lv_at hl 0 rfl) ?_
                refine lv_aload_n hx hb dX5_ifLooked_124 rfl (lv_at hl 4 rfl) ?_
                refine va_get (D := g.1) (ci := 4) (v := .ref (d 1)) (C := RX5) (T := TX5) (N := 7) hx hb hts hi_X5 hown hK hP 0 rfl rfl 0 (by decide) fl_7 (fun _ h9 => h9) rfl dX5_ifLooked_125 ?_
                refine lv_iload hx hb dX5_ifLooked_128 (lv_at hl 2 rfl) ?_
                refine lv_iconst (v := 3) hx hb dX5_ifLooked_130 (by decide) ?_
                refine lv_iadd hx hb dX5_ifLooked_131 ?_
                refine q_reI (show (((nI (136 + 15 * ((i18 / 8) * 8 + (i18 % 8)))) + 3) : Int32) = nI (136 + 15 * ((i18 / 8) * 8 + (i18 % 8)) + 3) from nI_add _ _) ?_
                refine q_iald (j := (136 + 15 * ((i18 / 8) * 8 + (i18 % 8)) + 3)) hx hb hK hP 1 0 rfl rfl (by omega) (by decide) dX5_ifLooked_132 ?_
                refine q_reI (show (m_s M (136 + 15 * ((i18 / 8) * 8 + (i18 % 8)) + 3) : Int32) = s_mkr (v_now V) ((i18 / 8) * 8 + (i18 % 8)) from cp_mkr hc (t := (i18 / 8)) (r := (i18 % 8)) (by omega) (by omega) (wro_t c_56)) ?_
                refine lv_iload_n hx hb dX5_ifLooked_133 rfl (lv_at hl 5 rfl) ?_
                refine lv_icmp_ne (tgt := 146) hx hb dX5_ifLooked_134 (by decide) (fun c_134 => ?_) (fun c_134 => ?_)
                · skip
                  refine lv_iconst (v := 0) hx hb dX5_ifLooked_146 (by decide) ?_
                  refine lv_isub hx hb dX5_ifLooked_147 ?_
                  refine lv_istore_n (lv' := [(2, .int (((q_acc (scoS (v_now V) t1) (iflk (v_now V) t1) i18) + (1 * ((truM (v_now V) t1 (i18 % 8)) - (s_mar (v_now V) ((i18 / 8) * 8 + (i18 % 8)))))) - 0)), (5, .int 1), (4, .int (nI (136 + 15 * ((i18 / 8) * 8 + (i18 % 8))))), (3, .int (nI i18)), (0, .ref (d 0)), (1, .int (nI t1))]) hx hb dX5_ifLooked_148 rfl hl (by decide) rfl (fun ls hl => ?_)
                  refine lv_iinc (v := nI (i18 + 1)) (lv' := [(3, .int (nI (i18 + 1))), (2, .int (((q_acc (scoS (v_now V) t1) (iflk (v_now V) t1) i18) + (1 * ((truM (v_now V) t1 (i18 % 8)) - (s_mar (v_now V) ((i18 / 8) * 8 + (i18 % 8)))))) - 0)), (5, .int 1), (4, .int (nI (136 + 15 * ((i18 / 8) * 8 + (i18 % 8))))), (0, .ref (d 0)), (1, .int (nI t1))]) hx hb dX5_ifLooked_149 hl (k := 3) rfl (nI_1 _) (by decide) rfl (fun ls hl => ?_)
                  refine lv_goto (tgt := 18) hx hb dX5_ifLooked_152 (by decide) ?_
                  exact ih_i18 (i18 + 1) (((q_acc (scoS (v_now V) t1) (iflk (v_now V) t1) i18) + (1 * ((truM (v_now V) t1 (i18 % 8)) - (s_mar (v_now V) ((i18 / 8) * 8 + (i18 % 8)))))) - 0) (by first | (simp only [q_acc, iflk, wflS, if_pos ct1, if_pos c_5, if_pos c_56, if_neg c_76, if_pos c_92, if_neg c_134]; exact i32_s _ _ _) | (simp [q_acc, iflk, wflS, ct1, c_5, c_56, c_76, c_92, c_134]; done)) lt_i18 (by omega) ls (lv_sub hl [0, 1, 4, 5] rfl)
                · skip
                  refine lv_aload_n hx hb dX5_ifLooked_137 rfl (lv_at hl 4 rfl) ?_
                  refine va_get (D := g.1) (ci := 4) (v := .ref (d 1)) (C := RX5) (T := TX5) (N := 7) hx hb hts hi_X5 hown hK hP 0 rfl rfl 0 (by decide) fl_7 (fun _ h9 => h9) rfl dX5_ifLooked_138 ?_
                  refine lv_iconst (v := 3) hx hb dX5_ifLooked_141 (by decide) ?_
                  refine q_iald (j := 3) hx hb hK hP 1 0 rfl rfl (by omega) (by decide) dX5_ifLooked_142 ?_
                  refine q_reI (show (m_s M 3 : Int32) = s_set (v_now V) 3 from cp_set hc (k := 3) (by omega)) ?_
                  refine lv_goto (tgt := 147) hx hb dX5_ifLooked_143 (by decide) ?_
                  refine lv_isub hx hb dX5_ifLooked_147 ?_
                  refine lv_istore_n (lv' := [(2, .int (((q_acc (scoS (v_now V) t1) (iflk (v_now V) t1) i18) + (1 * ((truM (v_now V) t1 (i18 % 8)) - (s_mar (v_now V) ((i18 / 8) * 8 + (i18 % 8)))))) - (s_set (v_now V) 3))), (5, .int 1), (4, .int (nI (136 + 15 * ((i18 / 8) * 8 + (i18 % 8))))), (3, .int (nI i18)), (0, .ref (d 0)), (1, .int (nI t1))]) hx hb dX5_ifLooked_148 rfl hl (by decide) rfl (fun ls hl => ?_)
                  refine lv_iinc (v := nI (i18 + 1)) (lv' := [(3, .int (nI (i18 + 1))), (2, .int (((q_acc (scoS (v_now V) t1) (iflk (v_now V) t1) i18) + (1 * ((truM (v_now V) t1 (i18 % 8)) - (s_mar (v_now V) ((i18 / 8) * 8 + (i18 % 8)))))) - (s_set (v_now V) 3))), (5, .int 1), (4, .int (nI (136 + 15 * ((i18 / 8) * 8 + (i18 % 8))))), (0, .ref (d 0)), (1, .int (nI t1))]) hx hb dX5_ifLooked_149 hl (k := 3) rfl (nI_1 _) (by decide) rfl (fun ls hl => ?_)
                  refine lv_goto (tgt := 18) hx hb dX5_ifLooked_152 (by decide) ?_
                  exact ih_i18 (i18 + 1) (((q_acc (scoS (v_now V) t1) (iflk (v_now V) t1) i18) + (1 * ((truM (v_now V) t1 (i18 % 8)) - (s_mar (v_now V) ((i18 / 8) * 8 + (i18 % 8)))))) - (s_set (v_now V) 3)) (by first | (simp only [q_acc, iflk, wflS, if_pos ct1, if_pos c_5, if_pos c_56, if_neg c_76, if_pos c_92, if_pos c_134]; exact i32_s _ _ _) | (simp [q_acc, iflk, wflS, ct1, c_5, c_56, c_76, c_92, c_134]; done)) lt_i18 (by omega) ls (lv_sub hl [0, 1, 4, 5] rfl)
            · skip
              have c_76 := jk_t (ok_jok ho (t := t1) (by omega)) (by omega) c_76
              refine lv_iconst (v := 2) hx hb dX5_ifLooked_79 (by decide) ?_
              refine lv_goto (tgt := 84) hx hb dX5_ifLooked_80 (by decide) ?_
              refine lv_istore (lv' := [(5, .int 2), (4, .int (nI (136 + 15 * ((i18 / 8) * 8 + (i18 % 8))))), (3, .int (nI i18)), (2, .int (q_acc (scoS (v_now V) t1) (iflk (v_now V) t1) i18)), (0, .ref (d 0)), (1, .int (nI t1))]) hx hb dX5_ifLooked_84 hl (by decide) rfl (fun ls hl => ?_)
              refine lv_iload_n hx hb dX5_ifLooked_86 rfl (lv_at hl 3 rfl) ?_
              refine lv_iload_n hx hb dX5_ifLooked_87 rfl (lv_at hl 2 rfl) ?_
              refine lv_bipush (v := 8) hx hb dX5_ifLooked_88 (by decide) ?_
              refine lv_idiv hx hb dX5_ifLooked_90 (by decide) ?_
              refine q_reI (show (((nI i18) / 8) : Int32) = nI (i18 / 8) from pk_div (a := i18) (d := 8) (by omega) (by decide) (by decide)) ?_
              refine lv_iload_n hx hb dX5_ifLooked_91 rfl (lv_at hl 5 rfl) ?_
              refine lv_icmp_ne (tgt := 120) hx hb dX5_ifLooked_92 (by decide) (fun c_92 => ?_) (fun c_92 => ?_)
              · skip
                refine lv_iconst (v := 0) hx hb dX5_ifLooked_120 (by decide) ?_
                refine lv_iadd hx hb dX5_ifLooked_121 ?_
                refine lv_istore_n (lv' := [(2, .int ((q_acc (scoS (v_now V) t1) (iflk (v_now V) t1) i18) + 0)), (5, .int 2), (4, .int (nI (136 + 15 * ((i18 / 8) * 8 + (i18 % 8))))), (3, .int (nI i18)), (0, .ref (d 0)), (1, .int (nI t1))]) hx hb dX5_ifLooked_122 rfl hl (by decide) rfl (fun ls hl => ?_)
                refine lv_iload_n hx hb dX5_ifLooked_123 rfl (lv_at hl 0 rfl) ?_
                refine lv_aload_n hx hb dX5_ifLooked_124 rfl (lv_at hl 4 rfl) ?_
                refine va_get (D := g.1) (ci := 4) (v := .ref (d 1)) (C := RX5) (T := TX5) (N := 7) hx hb hts hi_X5 hown hK hP 0 rfl rfl 0 (by decide) fl_7 (fun _ h9 => h9) rfl dX5_ifLooked_125 ?_
                refine lv_iload hx hb dX5_ifLooked_128 (lv_at hl 2 rfl) ?_
                refine lv_iconst (v := 3) hx hb dX5_ifLooked_130 (by decide) ?_
                refine lv_iadd hx hb dX5_ifLooked_131 ?_
                refine q_reI (show (((nI (136 + 15 * ((i18 / 8) * 8 + (i18 % 8)))) + 3) : Int32) = nI (136 + 15 * ((i18 / 8) * 8 + (i18 % 8)) + 3) from nI_add _ _) ?_
                refine q_iald (j := (136 + 15 * ((i18 / 8) * 8 + (i18 % 8)) + 3)) hx hb hK hP 1 0 rfl rfl (by omega) (by decide) dX5_ifLooked_132 ?_
                refine q_reI (show (m_s M (136 + 15 * ((i18 / 8) * 8 + (i18 % 8)) + 3) : Int32) = s_mkr (v_now V) ((i18 / 8) * 8 + (i18 % 8)) from cp_mkr hc (t := (i18 / 8)) (r := (i18 % 8)) (by omega) (by omega) (wro_t c_56)) ?_
                refine lv_iload_n hx hb dX5_ifLooked_133 rfl (lv_at hl 5 rfl) ?_
                refine lv_icmp_ne (tgt := 146) hx hb dX5_ifLooked_134 (by decide) (fun c_134 => ?_) (fun c_134 => ?_)
                · skip
                  refine lv_iconst (v := 0) hx hb dX5_ifLooked_146 (by decide) ?_
                  refine lv_isub hx hb dX5_ifLooked_147 ?_
                  refine lv_istore_n (lv' := [(2, .int (((q_acc (scoS (v_now V) t1) (iflk (v_now V) t1) i18) + 0) - 0)), (5, .int 2), (4, .int (nI (136 + 15 * ((i18 / 8) * 8 + (i18 % 8))))), (3, .int (nI i18)), (0, .ref (d 0)), (1, .int (nI t1))]) hx hb dX5_ifLooked_148 rfl hl (by decide) rfl (fun ls hl => ?_)
                  refine lv_iinc (v := nI (i18 + 1)) (lv' := [(3, .int (nI (i18 + 1))), (2, .int (((q_acc (scoS (v_now V) t1) (iflk (v_now V) t1) i18) + 0) - 0)), (5, .int 2), (4, .int (nI (136 + 15 * ((i18 / 8) * 8 + (i18 % 8))))), (0, .ref (d 0)), (1, .int (nI t1))]) hx hb dX5_ifLooked_149 hl (k := 3) rfl (nI_1 _) (by decide) rfl (fun ls hl => ?_)
                  refine lv_goto (tgt := 18) hx hb dX5_ifLooked_152 (by decide) ?_
                  exact ih_i18 (i18 + 1) (((q_acc (scoS (v_now V) t1) (iflk (v_now V) t1) i18) + 0) - 0) (by first | (simp only [q_acc, iflk, wflS, if_pos ct1, if_pos c_5, if_pos c_56, if_pos c_76, if_neg c_92, if_neg c_134]; exact i32_s _ _ _) | (simp [q_acc, iflk, wflS, ct1, c_5, c_56, c_76, c_92, c_134]; done)) lt_i18 (by omega) ls (lv_sub hl [0, 1, 4, 5] rfl)
                · skip
                  refine lv_aload_n hx hb dX5_ifLooked_137 rfl (lv_at hl 4 rfl) ?_
                  refine va_get (D := g.1) (ci := 4) (v := .ref (d 1)) (C := RX5) (T := TX5) (N := 7) hx hb hts hi_X5 hown hK hP 0 rfl rfl 0 (by decide) fl_7 (fun _ h9 => h9) rfl dX5_ifLooked_138 ?_
                  refine lv_iconst (v := 3) hx hb dX5_ifLooked_141 (by decide) ?_
                  refine q_iald (j := 3) hx hb hK hP 1 0 rfl rfl (by omega) (by decide) dX5_ifLooked_142 ?_
                  refine q_reI (show (m_s M 3 : Int32) = s_set (v_now V) 3 from cp_set hc (k := 3) (by omega)) ?_
                  refine lv_goto (tgt := 147) hx hb dX5_ifLooked_143 (by decide) ?_
                  refine lv_isub hx hb dX5_ifLooked_147 ?_
                  refine lv_istore_n (lv' := [(2, .int (((q_acc (scoS (v_now V) t1) (iflk (v_now V) t1) i18) + 0) - (s_set (v_now V) 3))), (5, .int 2), (4, .int (nI (136 + 15 * ((i18 / 8) * 8 + (i18 % 8))))), (3, .int (nI i18)), (0, .ref (d 0)), (1, .int (nI t1))]) hx hb dX5_ifLooked_148 rfl hl (by decide) rfl (fun ls hl => ?_)
                  refine lv_iinc (v := nI (i18 + 1)) (lv' := [(3, .int (nI (i18 + 1))), (2, .int (((q_acc (scoS (v_now V) t1) (iflk (v_now V) t1) i18) + 0) - (s_set (v_now V) 3))), (5, .int 2), (4, .int (nI (136 + 15 * ((i18 / 8) * 8 + (i18 % 8))))), (0, .ref (d 0)), (1, .int (nI t1))]) hx hb dX5_ifLooked_149 hl (k := 3) rfl (nI_1 _) (by decide) rfl (fun ls hl => ?_)
                  refine lv_goto (tgt := 18) hx hb dX5_ifLooked_152 (by decide) ?_
                  exact ih_i18 (i18 + 1) (((q_acc (scoS (v_now V) t1) (iflk (v_now V) t1) i18) + 0) - (s_set (v_now V) 3)) (by first | (simp only [q_acc, iflk, wflS, if_pos ct1, if_pos c_5, if_pos c_56, if_pos c_76, if_neg c_92, if_pos c_134]; exact i32_s _ _ _) | (simp [q_acc, iflk, wflS, ct1, c_5, c_56, c_76, c_92, c_134]; done)) lt_i18 (by omega) ls (lv_sub hl [0, 1, 4, 5] rfl)
              · skip
                have e92 : i18 / 8 = t1 := (nI_eq (by omega) (by omega)).mp c_92
                refine lv_iload hx hb dX5_ifLooked_95 (lv_at hl 0 rfl) ?_
                refine lv_aload_n hx hb dX5_ifLooked_97 rfl (lv_at hl 4 rfl) ?_
                refine lv_iload_n hx hb dX5_ifLooked_98 rfl (lv_at hl 5 rfl) ?_
                refine lv_iload_n hx hb dX5_ifLooked_99 rfl (lv_at hl 2 rfl) ?_
                refine lv_bipush (v := 8) hx hb dX5_ifLooked_100 (by decide) ?_
                refine lv_irem hx hb dX5_ifLooked_102 (by decide) ?_
                refine q_reI (show (((nI i18) - (nI i18) / 8 * 8) : Int32) = nI (i18 % 8) from pk_rem (a := i18) (d := 8) (by omega) (by decide) (by decide)) ?_
                refine q_V (As := [.int (nI t1), .int (nI (i18 % 8))]) (rest := [.int 2, .int (q_acc (scoS (v_now V) t1) (iflk (v_now V) t1) i18)]) ⟨hx, hb, hml, hown, hts⟩ (c_X5_trueMark l g d M (v_now V) K hc ho hK5 t1 (i18 % 8) (by omega) (by omega) (by rw [← e92]; exact ok_th ho (by omega) (by omega) (wro_t c_56)) (ok_to ho (t := i18 / 8) (by omega) (by omega) (wro_t c_56))) (cwV 2 hts gX5_ifLooked_X5_trueMark rfl rfl rfl (by decide +kernel) ⟨Nat.le_of_ble_eq_true rfl, Nat.le_of_ble_eq_true rfl⟩) q_B_blind (va_recv hK hP (ci := 4) (q0 := 0) rfl rfl) (q_B_of hP hK hN) rfl hl.1 rfl (Nat.le_of_ble_eq_true rfl) dX5_ifLooked_103 (Nat.zero_le _) (Nat.zero_le _) ?_
                refine lv_aload_n hx hb dX5_ifLooked_106 rfl (lv_at hl 4 rfl) ?_
                refine va_get (D := g.1) (ci := 4) (v := .ref (d 1)) (C := RX5) (T := TX5) (N := 7) hx hb hts hi_X5 hown hK hP 0 rfl rfl 0 (by decide) fl_7 (fun _ h9 => h9) rfl dX5_ifLooked_107 ?_
                refine lv_iload hx hb dX5_ifLooked_110 (lv_at hl 1 rfl) ?_
                refine lv_iconst (v := 2) hx hb dX5_ifLooked_112 (by decide) ?_
                refine lv_iadd hx hb dX5_ifLooked_113 ?_
                refine q_reI (show (((nI (136 + 15 * ((i18 / 8) * 8 + (i18 % 8)))) + 2) : Int32) = nI (136 + 15 * ((i18 / 8) * 8 + (i18 % 8)) + 2) from nI_add _ _) ?_
                refine q_iald (j := (136 + 15 * ((i18 / 8) * 8 + (i18 % 8)) + 2)) hx hb hK hP 1 0 rfl rfl (by omega) (by decide) dX5_ifLooked_114 ?_
                refine q_reI (show (m_s M (136 + 15 * ((i18 / 8) * 8 + (i18 % 8)) + 2) : Int32) = s_mar (v_now V) ((i18 / 8) * 8 + (i18 % 8)) from cp_mar hc (t := (i18 / 8)) (r := (i18 % 8)) (by omega) (by omega) (wro_t c_56)) ?_
                refine lv_isub hx hb dX5_ifLooked_115 ?_
                refine lv_imul hx hb dX5_ifLooked_116 ?_
                refine lv_goto (tgt := 121) hx hb dX5_ifLooked_117 (by decide) ?_
                refine lv_iadd hx hb dX5_ifLooked_121 ?_
                refine lv_istore_n (lv' := [(2, .int ((q_acc (scoS (v_now V) t1) (iflk (v_now V) t1) i18) + (2 * ((truM (v_now V) t1 (i18 % 8)) - (s_mar (v_now V) ((i18 / 8) * 8 + (i18 % 8))))))), (5, .int 2), (4, .int (nI (136 + 15 * ((i18 / 8) * 8 + (i18 % 8))))), (3, .int (nI i18)), (0, .ref (d 0)), (1, .int (nI t1))]) hx hb dX5_ifLooked_122 rfl hl (by decide) rfl (fun ls hl => ?_)
                refine lv_iload_n hx hb dX5_ifLooked_123 rfl (lv_at hl 0 rfl) ?_
                refine lv_aload_n hx hb dX5_ifLooked_124 rfl (lv_at hl 4 rfl) ?_
                refine va_get (D := g.1) (ci := 4) (v := .ref (d 1)) (C := RX5) (T := TX5) (N := 7) hx hb hts hi_X5 hown hK hP 0 rfl rfl 0 (by decide) fl_7 (fun _ h9 => h9) rfl dX5_ifLooked_125 ?_
                refine lv_iload hx hb dX5_ifLooked_128 (lv_at hl 2 rfl) ?_
                refine lv_iconst (v := 3) hx hb dX5_ifLooked_130 (by decide) ?_
                refine lv_iadd hx hb dX5_ifLooked_131 ?_
                refine q_reI (show (((nI (136 + 15 * ((i18 / 8) * 8 + (i18 % 8)))) + 3) : Int32) = nI (136 + 15 * ((i18 / 8) * 8 + (i18 % 8)) + 3) from nI_add _ _) ?_
                refine q_iald (j := (136 + 15 * ((i18 / 8) * 8 + (i18 % 8)) + 3)) hx hb hK hP 1 0 rfl rfl (by omega) (by decide) dX5_ifLooked_132 ?_
                refine q_reI (show (m_s M (136 + 15 * ((i18 / 8) * 8 + (i18 % 8)) + 3) : Int32) = s_mkr (v_now V) ((i18 / 8) * 8 + (i18 % 8)) from cp_mkr hc (t := (i18 / 8)) (r := (i18 % 8)) (by omega) (by omega) (wro_t c_56)) ?_
                refine lv_iload_n hx hb dX5_ifLooked_133 rfl (lv_at hl 5 rfl) ?_
                refine lv_icmp_ne (tgt := 146) hx hb dX5_ifLooked_134 (by decide) (fun c_134 => ?_) (fun c_134 => ?_)
                · skip
                  refine lv_iconst (v := 0) hx hb dX5_ifLooked_146 (by decide) ?_
                  refine lv_isub hx hb dX5_ifLooked_147 ?_
                  refine lv_istore_n (lv' := [(2, .int (((q_acc (scoS (v_now V) t1) (iflk (v_now V) t1) i18) + (2 * ((truM (v_now V) t1 (i18 % 8)) - (s_mar (v_now V) ((i18 / 8) * 8 + (i18 % 8)))))) - 0)), (5, .int 2), (4, .int (nI (136 + 15 * ((i18 / 8) * 8 + (i18 % 8))))), (3, .int (nI i18)), (0, .ref (d 0)), (1, .int (nI t1))]) hx hb dX5_ifLooked_148 rfl hl (by decide) rfl (fun ls hl => ?_)
                  refine lv_iinc (v := nI (i18 + 1)) (lv' := [(3, .int (nI (i18 + 1))), (2, .int (((q_acc (scoS (v_now V) t1) (iflk (v_now V) t1) i18) + (2 * ((truM (v_now V) t1 (i18 % 8)) - (s_mar (v_now V) ((i18 / 8) * 8 + (i18 % 8)))))) - 0)), (5, .int 2), (4, .int (nI (136 + 15 * ((i18 / 8) * 8 + (i18 % 8))))), (0, .ref (d 0)), (1, .int (nI t1))]) hx hb dX5_ifLooked_149 hl (k := 3) rfl (nI_1 _) (by decide) rfl (fun ls hl => ?_)
                  refine lv_goto (tgt := 18) hx hb dX5_ifLooked_152 (by decide) ?_
                  exact ih_i18 (i18 + 1) (((q_acc (scoS (v_now V) t1) (iflk (v_now V) t1) i18) + (2 * ((truM (v_now V) t1 (i18 % 8)) - (s_mar (v_now V) ((i18 / 8) * 8 + (i18 % 8)))))) - 0) (by first | (simp only [q_acc, iflk, wflS, if_pos ct1, if_pos c_5, if_pos c_56, if_pos c_76, if_pos c_92, if_neg c_134]; exact i32_s _ _ _) | (simp [q_acc, iflk, wflS, ct1, c_5, c_56, c_76, c_92, c_134]; done)) lt_i18 (by omega) ls (lv_sub hl [0, 1, 4, 5] rfl)
                · skip
                  refine lv_aload_n hx hb dX5_ifLooked_137 rfl (lv_at hl 4 rfl) ?_
                  refine va_get (D := g.1) (ci := 4) (v := .ref (d 1)) (C := RX5) (T := TX5) (N := 7) hx hb hts hi_X5 hown hK hP 0 rfl rfl 0 (by decide) fl_7 (fun _ h9 => h9) rfl dX5_ifLooked_138 ?_
                  refine lv_iconst (v := 3) hx hb dX5_ifLooked_141 (by decide) ?_
                  refine q_iald (j := 3) hx hb hK hP 1 0 rfl rfl (by omega) (by decide) dX5_ifLooked_142 ?_
                  refine q_reI (show (m_s M 3 : Int32) = s_set (v_now V) 3 from cp_set hc (k := 3) (by omega)) ?_
                  refine lv_goto (tgt := 147) hx hb dX5_ifLooked_143 (by decide) ?_
                  refine lv_isub hx hb dX5_ifLooked_147 ?_
                  refine lv_istore_n (lv' := [(2, .int (((q_acc (scoS (v_now V) t1) (iflk (v_now V) t1) i18) + (2 * ((truM (v_now V) t1 (i18 % 8)) - (s_mar (v_now V) ((i18 / 8) * 8 + (i18 % 8)))))) - (s_set (v_now V) 3))), (5, .int 2), (4, .int (nI (136 + 15 * ((i18 / 8) * 8 + (i18 % 8))))), (3, .int (nI i18)), (0, .ref (d 0)), (1, .int (nI t1))]) hx hb dX5_ifLooked_148 rfl hl (by decide) rfl (fun ls hl => ?_)
                  refine lv_iinc (v := nI (i18 + 1)) (lv' := [(3, .int (nI (i18 + 1))), (2, .int (((q_acc (scoS (v_now V) t1) (iflk (v_now V) t1) i18) + (2 * ((truM (v_now V) t1 (i18 % 8)) - (s_mar (v_now V) ((i18 / 8) * 8 + (i18 % 8)))))) - (s_set (v_now V) 3))), (5, .int 2), (4, .int (nI (136 + 15 * ((i18 / 8) * 8 + (i18 % 8))))), (0, .ref (d 0)), (1, .int (nI t1))]) hx hb dX5_ifLooked_149 hl (k := 3) rfl (nI_1 _) (by decide) rfl (fun ls hl => ?_)
                  refine lv_goto (tgt := 18) hx hb dX5_ifLooked_152 (by decide) ?_
                  exact ih_i18 (i18 + 1) (((q_acc (scoS (v_now V) t1) (iflk (v_now V) t1) i18) + (2 * ((truM (v_now V) t1 (i18 % 8)) - (s_mar (v_now V) ((i18 / 8) * 8 + (i18 % 8)))))) - (s_set (v_now V) 3)) (by first | (simp only [q_acc, iflk, wflS, if_pos ct1, if_pos c_5, if_pos c_56, if_pos c_76, if_pos c_92, if_pos c_134]; exact i32_s _ _ _) | (simp [q_acc, iflk, wflS, ct1, c_5, c_56, c_76, c_92, c_134]; done)) lt_i18 (by omega) ls (lv_sub hl [0, 1, 4, 5] rfl)
    exact L_18 (8 * s_n (v_now V) + 1) 0 (scoS (v_now V) t1) (rfl) (Nat.zero_le _) (by omega) ls (lv_sub hl [0, 1, 2, 3] rfl)
  · skip
    have c_5 : (isTm (v_now V) x) = false := bI_eq c_5
    refine lv_iconst (v := (-1)) hx hb dX5_ifLooked_8 (by decide) ?_
    exact q_iret hx hb hr hlk dX5_ifLooked_9 (by simp [iflR, c_5])

set_option maxHeartbeats 4000000 in
set_option maxRecDepth 100000 in
theorem c_X5_wrongMarks (l : Launch) (g : q_G) (d : Nat → Nat) (M : q_MV) (V : q_CV) (K : Nat) (hc : q_cp (v_now V) (m_s M)) (ho : q_ok K (v_now V)) (hK5 : K ≤ 512) (hpl : v_pl V ≤ 80) (hln : m_len M = v_pl V) (hpd : ∀ k, k < v_pl V → m_pad M k = v_pc V k) (hst : m_st M = v_hl V) : q_PM l yX5_wrongMarks wsX5_wrongMarks { frames := 3, cells := 0, slots := 0, locals := 69 } [.ref (d 0)] (q_B g (q_mdW g d M)) (.int (wroR V)) := by
  refine q_pm (cc := cX5_wrongMarks) (maxL := 3) (ret := (some .int)) (by decide) rfl (Nat.le_of_ble_eq_true rfl) ?_
  intro p e s m args below meth c ls hx hb hml hown hts hr hlk hB hl
  obtain ⟨hP, hK, hN⟩ := hB
  have hn10 := ok_n ho
  have fl_7 := hts (.fieldLink RX5 7 "PubQuizzesModel" "s" "[I") (by decide +kernel)
  have hi_X5 : ∀ w ∈ u_ws RX5 TX5 7, w ∈ wsX5_wrongMarks := by decide +kernel
  have hl : lv_has ls 3 [(0, .ref (d 0))] := hl
  refine lv_iconst (v := 0) hx hb dX5_wrongMarks_0 (by decide) ?_
  refine lv_istore_n (lv' := [(1, .int 0), (0, .ref (d 0))]) hx hb dX5_wrongMarks_1 rfl hl (by decide) rfl (fun ls hl => ?_)
  refine lv_iconst (v := 0) hx hb dX5_wrongMarks_2 (by decide) ?_
  refine lv_istore_n (lv' := [(2, .int 0), (1, .int 0), (0, .ref (d 0))]) hx hb dX5_wrongMarks_3 rfl hl (by decide) rfl (fun ls hl => ?_)
  have L_4 : ∀ (fu i4 : Nat) (y1_4 : Int32), y1_4 = nI (q_cnt (wflS (v_now V)) i4) → i4 ≤ 8 * s_n (v_now V) → 8 * s_n (v_now V) < i4 + fu → ∀ ls : Array Slot, lv_has ls 3 [(2, .int (nI i4)), (1, .int y1_4), (0, .ref (d 0))] → W p l e { frames := 3, cells := 0, slots := 0, locals := 69 } s m args below meth c s.heap [] 0 0 (MQ below (k2_QcV (.int (wroR V))) args s 0 0 (fun _ => False)) (F0 m 4 ls []) := by
    intro fu
    induction fu with
    | zero => intro i4 y1_4 ey1_4 hi_i4 hn_i4; exact absurd hn_i4 (by omega)
    | succ fu ih_i4 =>
      intro i4 y1_4 ey1_4 hi_i4 hn_i4 ls hl
      subst ey1_4
      refine lv_iload_n hx hb dX5_wrongMarks_4 rfl (lv_at hl 0 rfl) ?_
      refine lv_bipush (v := 8) hx hb dX5_wrongMarks_5 (by decide) ?_
      refine lv_aload_n hx hb dX5_wrongMarks_7 rfl (lv_at hl 2 rfl) ?_
      refine va_get (D := g.1) (ci := 4) (v := .ref (d 1)) (C := RX5) (T := TX5) (N := 7) hx hb hts hi_X5 hown hK hP 0 rfl rfl 0 (by decide) fl_7 (fun _ h9 => h9) rfl dX5_wrongMarks_8 ?_
      refine lv_iconst (v := 4) hx hb dX5_wrongMarks_11 (by decide) ?_
      refine q_iald (j := 4) hx hb hK hP 1 0 rfl rfl (by omega) (by decide) dX5_wrongMarks_12 ?_
      refine q_reI (show (m_s M 4 : Int32) = nI (s_n (v_now V)) from cp_n hc) ?_
      refine lv_imul hx hb dX5_wrongMarks_13 ?_
      refine q_reI (show ((8 * (nI (s_n (v_now V)))) : Int32) = nI (8 * (s_n (v_now V))) from pk_mul _ _) ?_
      refine lv_icmp_ge (tgt := 46) hx hb dX5_wrongMarks_14 (by decide) (fun c_14 => ?_) (fun c_14 => ?_)
      · skip
        have e_14 : i4 = 8 * s_n (v_now V) := q_ge_T (by omega) hi_i4 c_14
        subst e_14
        refine lv_iload_n hx hb dX5_wrongMarks_46 rfl (lv_at hl 1 rfl) ?_
        exact q_iret hx hb hr hlk dX5_wrongMarks_47 (by rw [wfl_n]; rfl)
      · skip
        have lt_i4 : i4 < 8 * s_n (v_now V) := q_ge_F (by omega) hi_i4 c_14
        refine lv_iload_n hx hb dX5_wrongMarks_17 rfl (lv_at hl 1 rfl) ?_
        refine lv_aload_n hx hb dX5_wrongMarks_18 rfl (lv_at hl 2 rfl) ?_
        refine lv_iload_n hx hb dX5_wrongMarks_19 rfl (lv_at hl 0 rfl) ?_
        refine lv_bipush (v := 8) hx hb dX5_wrongMarks_20 (by decide) ?_
        refine lv_idiv hx hb dX5_wrongMarks_22 (by decide) ?_
        refine q_reI (show (((nI i4) / 8) : Int32) = nI (i4 / 8) from pk_div (a := i4) (d := 8) (by omega) (by decide) (by decide)) ?_
        refine lv_iload_n hx hb dX5_wrongMarks_23 rfl (lv_at hl 0 rfl) ?_
        refine lv_bipush (v := 8) hx hb dX5_wrongMarks_24 (by decide) ?_
        refine lv_irem hx hb dX5_wrongMarks_26 (by decide) ?_
        refine q_reI (show (((nI i4) - (nI i4) / 8 * 8) : Int32) = nI (i4 % 8) from pk_rem (a := i4) (d := 8) (by omega) (by decide) (by decide)) ?_
        refine q_V (As := [.int (nI (i4 / 8)), .int (nI (i4 % 8))]) (rest := [.int (nI (q_cnt (wflS (v_now V)) i4))]) ⟨hx, hb, hml, hown, hts⟩ (c_X5_isWrong l g d M (v_now V) K hc ho hK5 (i4 / 8) (i4 % 8) (by omega) (by omega)) (cwV 2 hts gX5_wrongMarks_X5_isWrong rfl rfl rfl (by decide +kernel) ⟨Nat.le_of_ble_eq_true rfl, Nat.le_of_ble_eq_true rfl⟩) q_B_blind (va_recv hK hP (ci := 4) (q0 := 0) rfl rfl) (q_B_of hP hK hN) rfl hl.1 rfl (Nat.le_of_ble_eq_true rfl) dX5_wrongMarks_27 (Nat.zero_le _) (Nat.zero_le _) ?_
        refine lv_if_eq (tgt := 37) hx hb dX5_wrongMarks_30 (by decide) (fun c_30 => ?_) (fun c_30 => ?_)
        · skip
          have c_30 : (wroS (v_now V) (i4 / 8) (i4 % 8)) = false := bI_eq c_30
          refine lv_iconst (v := 0) hx hb dX5_wrongMarks_37 (by decide) ?_
          refine lv_iadd hx hb dX5_wrongMarks_38 ?_
          refine q_reI (show (((nI (q_cnt (wflS (v_now V)) i4)) + 0) : Int32) = nI (q_cnt (wflS (v_now V)) i4 + 0) from nI_add _ _) ?_
          refine lv_istore_n (lv' := [(1, .int (nI (q_cnt (wflS (v_now V)) i4 + 0))), (2, .int (nI i4)), (0, .ref (d 0))]) hx hb dX5_wrongMarks_39 rfl hl (by decide) rfl (fun ls hl => ?_)
          refine lv_iinc (v := nI (i4 + 1)) (lv' := [(2, .int (nI (i4 + 1))), (1, .int (nI (q_cnt (wflS (v_now V)) i4 + 0))), (0, .ref (d 0))]) hx hb dX5_wrongMarks_40 hl (k := 1) rfl (nI_1 _) (by decide) rfl (fun ls hl => ?_)
          refine lv_goto (tgt := 4) hx hb dX5_wrongMarks_43 (by decide) ?_
          exact ih_i4 (i4 + 1) (nI (q_cnt (wflS (v_now V)) i4 + 0)) (by simp [q_cnt, wflS, c_30]) lt_i4 (by omega) ls (lv_sub hl [0, 1, 2] rfl)
        · skip
          have c_30 : (wroS (v_now V) (i4 / 8) (i4 % 8)) = true := bI_ne c_30
          refine lv_iconst (v := 1) hx hb dX5_wrongMarks_33 (by decide) ?_
          refine lv_goto (tgt := 38) hx hb dX5_wrongMarks_34 (by decide) ?_
          refine lv_iadd hx hb dX5_wrongMarks_38 ?_
          refine q_reI (show (((nI (q_cnt (wflS (v_now V)) i4)) + 1) : Int32) = nI (q_cnt (wflS (v_now V)) i4 + 1) from nI_add _ _) ?_
          refine lv_istore_n (lv' := [(1, .int (nI (q_cnt (wflS (v_now V)) i4 + 1))), (2, .int (nI i4)), (0, .ref (d 0))]) hx hb dX5_wrongMarks_39 rfl hl (by decide) rfl (fun ls hl => ?_)
          refine lv_iinc (v := nI (i4 + 1)) (lv' := [(2, .int (nI (i4 + 1))), (1, .int (nI (q_cnt (wflS (v_now V)) i4 + 1))), (0, .ref (d 0))]) hx hb dX5_wrongMarks_40 hl (k := 1) rfl (nI_1 _) (by decide) rfl (fun ls hl => ?_)
          refine lv_goto (tgt := 4) hx hb dX5_wrongMarks_43 (by decide) ?_
          exact ih_i4 (i4 + 1) (nI (q_cnt (wflS (v_now V)) i4 + 1)) (by simp [q_cnt, wflS, c_30]) lt_i4 (by omega) ls (lv_sub hl [0, 1, 2] rfl)
  exact L_4 (8 * s_n (v_now V) + 1) 0 0 (rfl) (Nat.zero_le _) (by omega) ls (lv_sub hl [0, 1, 2] rfl)
