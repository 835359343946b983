set_option maxHeartbeats 4000000 in
set_option maxRecDepth 100000 in
theorem c_X4_ofTeam (l : Launch) (g : q_G) (a : Nat → Nat → Nat) (b : Nat → Nat) (V : q_CV) (x : Int32) (z : Int32) (h1_ : s_n (v_now V) ≤ 10) : q_PM l yX4_ofTeam wsX4_ofTeam { frames := 6, cells := 0, slots := 0, locals := 141 } [.ref (b 0), .int x, .int z] (q_B g (q_pqW g a b V)) (.int (oftR V x z)) := by
  refine q_pm (cc := cX4_ofTeam) (maxL := 3) (ret := (some .int)) (by decide) rfl (Nat.le_of_ble_eq_true rfl) ?_
  intro p e s m args below meth c ls hx hb hml hown hts hr hlk hB hl
  obtain ⟨hP, hK, hN⟩ := hB
  have fl_12 := hts (.fieldLink RX4 12 "PubQuizzes" "now" "LPubQuizzes$State;") (by decide +kernel)
  have fl_60 := hts (.fieldLink RX4 60 "PubQuizzes$State" "paid" "[I") (by decide +kernel)
  have fl_99 := hts (.fieldLink RX4 99 "PubQuizzes$State" "jokers" "[I") (by decide +kernel)
  have fl_151 := hts (.fieldLink RX4 151 "PubQuizzes$State" "guesses" "[I") (by decide +kernel)
  have fl_166 := hts (.fieldLink RX4 166 "PubQuizzes$State" "fines" "[I") (by decide +kernel)
  have hi_X4 : ∀ w ∈ u_ws RX4 TX4 5, w ∈ wsX4_ofTeam := by decide +kernel
  have hi_X3 : ∀ w ∈ u_ws RX3 TX3 12, w ∈ wsX4_ofTeam := by decide +kernel
  have hl : lv_has ls 3 [(0, .ref (b 0)), (1, .int x), (2, .int z)] := hl
  refine lv_aload_n hx hb dX4_ofTeam_0 rfl (lv_at hl 0 rfl) ?_
  refine va_get (D := g.1) (ci := 3) (v := .ref (a 0 0)) (C := RX4) (T := TX4) (N := 5) hx hb hts hi_X4 hown hK hP 0 rfl rfl 0 (by decide) fl_12 (fun _ h9 => h9) rfl dX4_ofTeam_1 ?_
  refine lv_iload_n hx hb dX4_ofTeam_4 rfl (lv_at hl 1 rfl) ?_
  refine q_V (As := [.int x]) (rest := []) ⟨hx, hb, hml, hown, hts⟩ (c_X3_isTeam l g (a 0) (v_now V) x ) (cwV 1 hts gX4_ofTeam_X3_isTeam rfl rfl rfl (by decide +kernel) ⟨Nat.le_of_ble_eq_true rfl, Nat.le_of_ble_eq_true rfl⟩) q_B_blind (va_recv hK (q_nowP (V := V) hP) (ci := 2) (q0 := 0) rfl rfl) (q_B_of (q_nowP (V := V) hP) hK hN) rfl hl.1 rfl (Nat.le_of_ble_eq_true rfl) dX4_ofTeam_5 (Nat.zero_le _) (Nat.zero_le _) ?_
  refine lv_if_ne (tgt := 13) hx hb dX4_ofTeam_8 (by decide) (fun c_8 => ?_) (fun c_8 => ?_)
  · skip
    have c_8 : (isTm (v_now V) x) = true := bI_ne c_8
    obtain ⟨t1, ht1, ht1x, rfl⟩ := isTm_of h1_ c_8
    have ct1 : tN (nI t1) = t1 := tN_n (by omega)
    refine lv_iload_n hx hb dX4_ofTeam_13 rfl (lv_at hl 2 rfl) ?_
    by_cases w_14_0 : z = 0
    · skip
      have tx_14 : (z : Int32).toInt = 0 := by rw [w_14_0]; decide
      refine lv_tableIn (tgt := 68) (off := 54) hx hb dX4_ofTeam_14 (by rw [tx_14]; decide) (by rw [tx_14]; decide) (by rw [tx_14]; rfl) (by decide) ?_
      refine lv_aload_n hx hb dX4_ofTeam_68 rfl (lv_at hl 0 rfl) ?_
      refine va_get (D := g.1) (ci := 3) (v := .ref (a 0 0)) (C := RX4) (T := TX4) (N := 5) hx hb hts hi_X4 hown hK hP 0 rfl rfl 0 (by decide) fl_12 (fun _ h9 => h9) rfl dX4_ofTeam_69 ?_
      refine lv_iload_n hx hb dX4_ofTeam_72 rfl (lv_at hl 1 rfl) ?_
      refine q_V (As := [.int (nI t1)]) (rest := []) ⟨hx, hb, hml, hown, hts⟩ (c_X3_scoreOf l g (a 0) (v_now V) t1 (by omega)) (cwV 1 hts gX4_ofTeam_X3_scoreOf rfl rfl rfl (by decide +kernel) ⟨Nat.le_of_ble_eq_true rfl, Nat.le_of_ble_eq_true rfl⟩) q_B_blind (va_recv hK (q_nowP (V := V) hP) (ci := 2) (q0 := 0) rfl rfl) (q_B_of (q_nowP (V := V) hP) hK hN) rfl hl.1 rfl (Nat.le_of_ble_eq_true rfl) dX4_ofTeam_73 (Nat.zero_le _) (Nat.zero_le _) ?_
      refine lv_sipush (v := 1000) hx hb dX4_ofTeam_76 (by decide) ?_
      refine lv_iadd hx hb dX4_ofTeam_79 ?_
      exact q_iret hx hb hr hlk dX4_ofTeam_80 (by simp [oftR, ct1, c_8, w_14_0])
    by_cases w_14_1 : z = 1
    · skip
      have tx_14 : (z : Int32).toInt = 1 := by rw [w_14_1]; decide
      refine lv_tableIn (tgt := 81) (off := 67) hx hb dX4_ofTeam_14 (by rw [tx_14]; decide) (by rw [tx_14]; decide) (by rw [tx_14]; rfl) (by decide) ?_
      refine lv_aload_n hx hb dX4_ofTeam_81 rfl (lv_at hl 0 rfl) ?_
      refine va_get (D := g.1) (ci := 3) (v := .ref (a 0 0)) (C := RX4) (T := TX4) (N := 5) hx hb hts hi_X4 hown hK hP 0 rfl rfl 0 (by decide) fl_12 (fun _ h9 => h9) rfl dX4_ofTeam_82 ?_
      refine lv_iload_n hx hb dX4_ofTeam_85 rfl (lv_at hl 1 rfl) ?_
      refine q_V (As := [.int (nI t1)]) (rest := []) ⟨hx, hb, hml, hown, hts⟩ (c_X3_rankOf l g (a 0) (v_now V) t1 (by omega) (by omega)) (cwV 1 hts gX4_ofTeam_X3_rankOf rfl rfl rfl (by decide +kernel) ⟨Nat.le_of_ble_eq_true rfl, Nat.le_of_ble_eq_true rfl⟩) q_B_blind (va_recv hK (q_nowP (V := V) hP) (ci := 2) (q0 := 0) rfl rfl) (q_B_of (q_nowP (V := V) hP) hK hN) rfl hl.1 rfl (Nat.le_of_ble_eq_true rfl) dX4_ofTeam_86 (Nat.zero_le _) (Nat.zero_le _) ?_
      exact q_iret hx hb hr hlk dX4_ofTeam_89 (by simp [oftR, ct1, c_8, w_14_0, w_14_1])
    by_cases w_14_2 : z = 2
    · skip
      have tx_14 : (z : Int32).toInt = 2 := by rw [w_14_2]; decide
      refine lv_tableIn (tgt := 90) (off := 76) hx hb dX4_ofTeam_14 (by rw [tx_14]; decide) (by rw [tx_14]; decide) (by rw [tx_14]; rfl) (by decide) ?_
      refine lv_aload_n hx hb dX4_ofTeam_90 rfl (lv_at hl 0 rfl) ?_
      refine va_get (D := g.1) (ci := 3) (v := .ref (a 0 0)) (C := RX4) (T := TX4) (N := 5) hx hb hts hi_X4 hown hK hP 0 rfl rfl 0 (by decide) fl_12 (fun _ h9 => h9) rfl dX4_ofTeam_91 ?_
      refine lv_iload_n hx hb dX4_ofTeam_94 rfl (lv_at hl 1 rfl) ?_
      refine q_V (As := [.int (nI t1)]) (rest := []) ⟨hx, hb, hml, hown, hts⟩ (c_X3_prizeOf l g (a 0) (v_now V) t1 (by omega) (by omega) (by omega)) (cwV 1 hts gX4_ofTeam_X3_prizeOf rfl rfl rfl (by decide +kernel) ⟨Nat.le_of_ble_eq_true rfl, Nat.le_of_ble_eq_true rfl⟩) q_B_blind (va_recv hK (q_nowP (V := V) hP) (ci := 2) (q0 := 0) rfl rfl) (q_B_of (q_nowP (V := V) hP) hK hN) rfl hl.1 rfl (Nat.le_of_ble_eq_true rfl) dX4_ofTeam_95 (Nat.zero_le _) (Nat.zero_le _) ?_
      exact q_iret hx hb hr hlk dX4_ofTeam_98 (by simp [oftR, ct1, c_8, w_14_0, w_14_1, w_14_2])
    by_cases w_14_3 : z = 3
    · skip
      have tx_14 : (z : Int32).toInt = 3 := by rw [w_14_3]; decide
      refine lv_tableIn (tgt := 99) (off := 85) hx hb dX4_ofTeam_14 (by rw [tx_14]; decide) (by rw [tx_14]; decide) (by rw [tx_14]; rfl) (by decide) ?_
      refine lv_aload_n hx hb dX4_ofTeam_99 rfl (lv_at hl 0 rfl) ?_
      refine va_get (D := g.1) (ci := 3) (v := .ref (a 0 0)) (C := RX4) (T := TX4) (N := 5) hx hb hts hi_X4 hown hK hP 0 rfl rfl 0 (by decide) fl_12 (fun _ h9 => h9) rfl dX4_ofTeam_100 ?_
      refine va_get (D := g.1) (ci := 2) (v := .ref (a 0 3)) (C := RX3) (T := TX3) (N := 12) hx hb hts hi_X3 hown hK hP 7 rfl rfl 2 (by decide) fl_99 (fun _ h9 => h9) rfl dX4_ofTeam_103 ?_
      refine lv_iload_n hx hb dX4_ofTeam_106 rfl (lv_at hl 1 rfl) ?_
      refine q_iald (j := t1) hx hb hK hP 10 0 rfl rfl (by omega) (by decide) dX4_ofTeam_107 ?_
      exact q_iret hx hb hr hlk dX4_ofTeam_108 (by simp [oftR, ct1, c_8, w_14_0, w_14_1, w_14_2, w_14_3])
    by_cases w_14_4 : z = 4
    · skip
      have tx_14 : (z : Int32).toInt = 4 := by rw [w_14_4]; decide
      refine lv_tableIn (tgt := 109) (off := 95) hx hb dX4_ofTeam_14 (by rw [tx_14]; decide) (by rw [tx_14]; decide) (by rw [tx_14]; rfl) (by decide) ?_
      refine lv_aload_n hx hb dX4_ofTeam_109 rfl (lv_at hl 0 rfl) ?_
      refine va_get (D := g.1) (ci := 3) (v := .ref (a 0 0)) (C := RX4) (T := TX4) (N := 5) hx hb hts hi_X4 hown hK hP 0 rfl rfl 0 (by decide) fl_12 (fun _ h9 => h9) rfl dX4_ofTeam_110 ?_
      refine va_get (D := g.1) (ci := 2) (v := .ref (a 0 4)) (C := RX3) (T := TX3) (N := 12) hx hb hts hi_X3 hown hK hP 7 rfl rfl 3 (by decide) fl_166 (fun _ h9 => h9) rfl dX4_ofTeam_113 ?_
      refine lv_iload_n hx hb dX4_ofTeam_116 rfl (lv_at hl 1 rfl) ?_
      refine q_iald (j := t1) hx hb hK hP 11 0 rfl rfl (by omega) (by decide) dX4_ofTeam_117 ?_
      exact q_iret hx hb hr hlk dX4_ofTeam_118 (by simp [oftR, ct1, c_8, w_14_0, w_14_1, w_14_2, w_14_3, w_14_4])
    by_cases w_14_5 : z = 5
    · skip
      have tx_14 : (z : Int32).toInt = 5 := by rw [w_14_5]; decide
      refine lv_tableIn (tgt := 119) (off := 105) hx hb dX4_ofTeam_14 (by rw [tx_14]; decide) (by rw [tx_14]; decide) (by rw [tx_14]; rfl) (by decide) ?_
      refine lv_aload_n hx hb dX4_ofTeam_119 rfl (lv_at hl 0 rfl) ?_
      refine va_get (D := g.1) (ci := 3) (v := .ref (a 0 0)) (C := RX4) (T := TX4) (N := 5) hx hb hts hi_X4 hown hK hP 0 rfl rfl 0 (by decide) fl_12 (fun _ h9 => h9) rfl dX4_ofTeam_120 ?_
      refine va_get (D := g.1) (ci := 2) (v := .ref (a 0 5)) (C := RX3) (T := TX3) (N := 12) hx hb hts hi_X3 hown hK hP 7 rfl rfl 4 (by decide) fl_151 (fun _ h9 => h9) rfl dX4_ofTeam_123 ?_
      refine lv_iload_n hx hb dX4_ofTeam_126 rfl (lv_at hl 1 rfl) ?_
      refine q_iald (j := t1) hx hb hK hP 12 0 rfl rfl (by omega) (by decide) dX4_ofTeam_127 ?_
      exact q_iret hx hb hr hlk dX4_ofTeam_128 (by simp [oftR, ct1, c_8, w_14_0, w_14_1, w_14_2, w_14_3, w_14_4, w_14_5])
    by_cases w_14_6 : z = 6
    · skip
      have tx_14 : (z : Int32).toInt = 6 := by rw [w_14_6]; decide
      refine lv_tableIn (tgt := 129) (off := 115) hx hb dX4_ofTeam_14 (by rw [tx_14]; decide) (by rw [tx_14]; decide) (by rw [tx_14]; rfl) (by decide) ?_
      refine lv_aload_n hx hb dX4_ofTeam_129 rfl (lv_at hl 0 rfl) ?_
      refine va_get (D := g.1) (ci := 3) (v := .ref (a 0 0)) (C := RX4) (T := TX4) (N := 5) hx hb hts hi_X4 hown hK hP 0 rfl rfl 0 (by decide) fl_12 (fun _ h9 => h9) rfl dX4_ofTeam_130 ?_
      refine lv_iload_n hx hb dX4_ofTeam_133 rfl (lv_at hl 1 rfl) ?_
      refine q_V (As := [.int (nI t1)]) (rest := []) ⟨hx, hb, hml, hown, hts⟩ (c_X3_roundsWithSheet l g (a 0) (v_now V) t1 (by omega)) (cwV 1 hts gX4_ofTeam_X3_roundsWithSheet rfl rfl rfl (by decide +kernel) ⟨Nat.le_of_ble_eq_true rfl, Nat.le_of_ble_eq_true rfl⟩) q_B_blind (va_recv hK (q_nowP (V := V) hP) (ci := 2) (q0 := 0) rfl rfl) (q_B_of (q_nowP (V := V) hP) hK hN) rfl hl.1 rfl (Nat.le_of_ble_eq_true rfl) dX4_ofTeam_134 (Nat.zero_le _) (Nat.zero_le _) ?_
      exact q_iret hx hb hr hlk dX4_ofTeam_137 (by simp [oftR, ct1, c_8, w_14_0, w_14_1, w_14_2, w_14_3, w_14_4, w_14_5, w_14_6])
    by_cases w_14_7 : z = 7
    · skip
      have tx_14 : (z : Int32).toInt = 7 := by rw [w_14_7]; decide
      refine lv_tableIn (tgt := 138) (off := 124) hx hb dX4_ofTeam_14 (by rw [tx_14]; decide) (by rw [tx_14]; decide) (by rw [tx_14]; rfl) (by decide) ?_
      refine lv_aload_n hx hb dX4_ofTeam_138 rfl (lv_at hl 0 rfl) ?_
      refine va_get (D := g.1) (ci := 3) (v := .ref (a 0 0)) (C := RX4) (T := TX4) (N := 5) hx hb hts hi_X4 hown hK hP 0 rfl rfl 0 (by decide) fl_12 (fun _ h9 => h9) rfl dX4_ofTeam_139 ?_
      refine lv_iload_n hx hb dX4_ofTeam_142 rfl (lv_at hl 1 rfl) ?_
      refine q_V (As := [.int (nI t1)]) (rest := []) ⟨hx, hb, hml, hown, hts⟩ (c_X3_roundsTold l g (a 0) (v_now V) t1 (by omega)) (cwV 1 hts gX4_ofTeam_X3_roundsTold rfl rfl rfl (by decide +kernel) ⟨Nat.le_of_ble_eq_true rfl, Nat.le_of_ble_eq_true rfl⟩) q_B_blind (va_recv hK (q_nowP (V := V) hP) (ci := 2) (q0 := 0) rfl rfl) (q_B_of (q_nowP (V := V) hP) hK hN) rfl hl.1 rfl (Nat.le_of_ble_eq_true rfl) dX4_ofTeam_143 (Nat.zero_le _) (Nat.zero_le _) ?_
      exact q_iret hx hb hr hlk dX4_ofTeam_146 (by simp [oftR, ct1, c_8, w_14_0, w_14_1, w_14_2, w_14_3, w_14_4, w_14_5, w_14_6, w_14_7])
    by_cases w_14_8 : z = 8
    · skip
      have tx_14 : (z : Int32).toInt = 8 := by rw [w_14_8]; decide
      refine lv_tableIn (tgt := 147) (off := 133) hx hb dX4_ofTeam_14 (by rw [tx_14]; decide) (by rw [tx_14]; decide) (by rw [tx_14]; rfl) (by decide) ?_
      refine lv_aload_n hx hb dX4_ofTeam_147 rfl (lv_at hl 0 rfl) ?_
      refine va_get (D := g.1) (ci := 3) (v := .ref (a 0 0)) (C := RX4) (T := TX4) (N := 5) hx hb hts hi_X4 hown hK hP 0 rfl rfl 0 (by decide) fl_12 (fun _ h9 => h9) rfl dX4_ofTeam_148 ?_
      refine va_get (D := g.1) (ci := 2) (v := .ref (a 0 2)) (C := RX3) (T := TX3) (N := 12) hx hb hts hi_X3 hown hK hP 7 rfl rfl 1 (by decide) fl_60 (fun _ h9 => h9) rfl dX4_ofTeam_151 ?_
      refine lv_iload_n hx hb dX4_ofTeam_154 rfl (lv_at hl 1 rfl) ?_
      refine q_iald (j := t1) hx hb hK hP 9 0 rfl rfl (by omega) (by decide) dX4_ofTeam_155 ?_
      exact q_iret hx hb hr hlk dX4_ofTeam_156 (by simp [oftR, ct1, c_8, w_14_0, w_14_1, w_14_2, w_14_3, w_14_4, w_14_5, w_14_6, w_14_7, w_14_8])
    by_cases w_14_9 : z = 9
    · skip
      have tx_14 : (z : Int32).toInt = 9 := by rw [w_14_9]; decide
      refine lv_tableIn (tgt := 157) (off := 143) hx hb dX4_ofTeam_14 (by rw [tx_14]; decide) (by rw [tx_14]; decide) (by rw [tx_14]; rfl) (by decide) ?_
      refine lv_aload_n hx hb dX4_ofTeam_157 rfl (lv_at hl 0 rfl) ?_
      refine va_get (D := g.1) (ci := 3) (v := .ref (a 0 0)) (C := RX4) (T := TX4) (N := 5) hx hb hts hi_X4 hown hK hP 0 rfl rfl 0 (by decide) fl_12 (fun _ h9 => h9) rfl dX4_ofTeam_158 ?_
      refine lv_iload_n hx hb dX4_ofTeam_161 rfl (lv_at hl 1 rfl) ?_
      refine q_V (As := [.int (nI t1)]) (rest := []) ⟨hx, hb, hml, hown, hts⟩ (c_X3_tiedWith l g (a 0) (v_now V) t1 (by omega) (by omega)) (cwV 1 hts gX4_ofTeam_X3_tiedWith rfl rfl rfl (by decide +kernel) ⟨Nat.le_of_ble_eq_true rfl, Nat.le_of_ble_eq_true rfl⟩) q_B_blind (va_recv hK (q_nowP (V := V) hP) (ci := 2) (q0 := 0) rfl rfl) (q_B_of (q_nowP (V := V) hP) hK hN) rfl hl.1 rfl (Nat.le_of_ble_eq_true rfl) dX4_ofTeam_162 (Nat.zero_le _) (Nat.zero_le _) ?_
      exact q_iret hx hb hr hlk dX4_ofTeam_165 (by simp [oftR, ct1, c_8, w_14_0, w_14_1, w_14_2, w_14_3, w_14_4, w_14_5, w_14_6, w_14_7, w_14_8, w_14_9])
    have tw_14 := q_tab (n := 10) (lo := 0) (x := z) (by decide) (lt_s (p := fun k => ¬ z = nI (k + 0)) (lt_s (p := fun k => ¬ z = nI (k + 0)) (lt_s (p := fun k => ¬ z = nI (k + 0)) (lt_s (p := fun k => ¬ z = nI (k + 0)) (lt_s (p := fun k => ¬ z = nI (k + 0)) (lt_s (p := fun k => ¬ z = nI (k + 0)) (lt_s (p := fun k => ¬ z = nI (k + 0)) (lt_s (p := fun k => ¬ z = nI (k + 0)) (lt_s (p := fun k => ¬ z = nI (k + 0)) (lt_s (p := fun k => ¬ z = nI (k + 0)) (lt_0) w_14_0) w_14_1) w_14_2) w_14_3) w_14_4) w_14_5) w_14_6) w_14_7) w_14_8) w_14_9)
    refine lv_tableOut (tgt := 166) hx hb dX4_ofTeam_14 (by omega) (by decide) ?_
    refine lv_bipush (v := (-2)) hx hb dX4_ofTeam_166 (by decide) ?_
    exact q_iret hx hb hr hlk dX4_ofTeam_168 (by simp [oftR, ct1, c_8, w_14_0, w_14_1, w_14_2, w_14_3, w_14_4, w_14_5, w_14_6, w_14_7, w_14_8, w_14_9])
  · skip
    have c_8 : (isTm (v_now V) x) = false := bI_eq c_8
    refine lv_iconst (v := (-1)) hx hb dX4_ofTeam_11 (by decide) ?_
    exact q_iret hx hb hr hlk dX4_ofTeam_12 (by simp [oftR, c_8])

set_option maxHeartbeats 4000000 in
set_option maxRecDepth 100000 in
theorem c_X4_ofRound (l : Launch) (g : q_G) (a : Nat → Nat → Nat) (b : Nat → Nat) (V : q_CV) (y : Int32) (z : Int32) (h1_ : s_n (v_now V) ≤ 10) : q_PM l yX4_ofRound wsX4_ofRound { frames := 4, cells := 0, slots := 0, locals := 88 } [.ref (b 0), .int y, .int z] (q_B g (q_pqW g a b V)) (.int (ofrR V y z)) := by
  refine q_pm (cc := cX4_ofRound) (maxL := 3) (ret := (some .int)) (by decide) rfl (Nat.le_of_ble_eq_true rfl) ?_
  intro p e s m args below meth c ls hx hb hml hown hts hr hlk hB hl
  obtain ⟨hP, hK, hN⟩ := hB
  have fl_12 := hts (.fieldLink RX4 12 "PubQuizzes" "now" "LPubQuizzes$State;") (by decide +kernel)
  have fl_52 := hts (.fieldLink RX4 52 "PubQuizzes$State" "teams" "I") (by decide +kernel)
  have fl_145 := hts (.fieldLink RX4 145 "PubQuizzes$State" "looked" "[I") (by decide +kernel)
  have hi_X4 : ∀ w ∈ u_ws RX4 TX4 5, w ∈ wsX4_ofRound := by decide +kernel
  have hi_X3 : ∀ w ∈ u_ws RX3 TX3 12, w ∈ wsX4_ofRound := by decide +kernel
  have hl : lv_has ls 3 [(0, .ref (b 0)), (1, .int y), (2, .int z)] := hl
  refine lv_iload_n hx hb dX4_ofRound_0 rfl (lv_at hl 1 rfl) ?_
  refine q_S (As := [.int y]) (rest := []) ⟨hx, hb, hml, hown, hts⟩ (c_X4_isRound l y ) (va_cwS 1 hts gX4_ofRound_X4_isRound rfl rfl rfl (by decide +kernel) ⟨Nat.le_of_ble_eq_true rfl, Nat.le_of_ble_eq_true rfl⟩) q_Blind_t (fun _ _ _ => trivial) rfl hl.1 rfl (Nat.le_of_ble_eq_true rfl) dX4_ofRound_1 (Nat.zero_le _) (Nat.zero_le _) ?_
  refine lv_if_ne (tgt := 9) hx hb dX4_ofRound_4 (by decide) (fun c_4 => ?_) (fun c_4 => ?_)
  · skip
    have c_4 : (isRd y) = true := bI_ne c_4
    obtain ⟨r1, hr1, rfl⟩ := isRd_of c_4
    have cr1 : tN (nI r1) = r1 := tN_n (by omega)
    refine lv_iload_n hx hb dX4_ofRound_9 rfl (lv_at hl 2 rfl) ?_
    by_cases w_10_0 : z = 0
    · skip
      have tx_10 : (z : Int32).toInt = 0 := by rw [w_10_0]; decide
      refine lv_tableIn (tgt := 48) (off := 38) hx hb dX4_ofRound_10 (by rw [tx_10]; decide) (by rw [tx_10]; decide) (by rw [tx_10]; rfl) (by decide) ?_
      refine lv_aload_n hx hb dX4_ofRound_48 rfl (lv_at hl 0 rfl) ?_
      refine va_get (D := g.1) (ci := 3) (v := .ref (a 0 0)) (C := RX4) (T := TX4) (N := 5) hx hb hts hi_X4 hown hK hP 0 rfl rfl 0 (by decide) fl_12 (fun _ h9 => h9) rfl dX4_ofRound_49 ?_
      refine lv_iload_n hx hb dX4_ofRound_52 rfl (lv_at hl 1 rfl) ?_
      refine q_V (As := [.int (nI r1)]) (rest := []) ⟨hx, hb, hml, hown, hts⟩ (c_X3_isOpen l g (a 0) (v_now V) r1 (by omega)) (cwV 1 hts gX4_ofRound_X3_isOpen rfl rfl rfl (by decide +kernel) ⟨Nat.le_of_ble_eq_true rfl, Nat.le_of_ble_eq_true rfl⟩) q_B_blind (va_recv hK (q_nowP (V := V) hP) (ci := 2) (q0 := 0) rfl rfl) (q_B_of (q_nowP (V := V) hP) hK hN) rfl hl.1 rfl (Nat.le_of_ble_eq_true rfl) dX4_ofRound_53 (Nat.zero_le _) (Nat.zero_le _) ?_
      refine lv_if_eq (tgt := 63) hx hb dX4_ofRound_56 (by decide) (fun c_56 => ?_) (fun c_56 => ?_)
      · skip
        have c_56 : (isOp (v_now V) r1) = false := bI_eq c_56
        refine lv_iconst (v := 0) hx hb dX4_ofRound_63 (by decide) ?_
        exact q_iret hx hb hr hlk dX4_ofRound_64 (by simp [ofrR, bI, cr1, c_4, w_10_0, c_56])
      · skip
        have c_56 : (isOp (v_now V) r1) = true := bI_ne c_56
        refine lv_iconst (v := 1) hx hb dX4_ofRound_59 (by decide) ?_
        refine lv_goto (tgt := 64) hx hb dX4_ofRound_60 (by decide) ?_
        exact q_iret hx hb hr hlk dX4_ofRound_64 (by simp [ofrR, bI, cr1, c_4, w_10_0, c_56])
    by_cases w_10_1 : z = 1
    · skip
      have tx_10 : (z : Int32).toInt = 1 := by rw [w_10_1]; decide
      refine lv_tableIn (tgt := 65) (off := 55) hx hb dX4_ofRound_10 (by rw [tx_10]; decide) (by rw [tx_10]; decide) (by rw [tx_10]; rfl) (by decide) ?_
      refine lv_aload_n hx hb dX4_ofRound_65 rfl (lv_at hl 0 rfl) ?_
      refine va_get (D := g.1) (ci := 3) (v := .ref (a 0 0)) (C := RX4) (T := TX4) (N := 5) hx hb hts hi_X4 hown hK hP 0 rfl rfl 0 (by decide) fl_12 (fun _ h9 => h9) rfl dX4_ofRound_66 ?_
      refine lv_iload_n hx hb dX4_ofRound_69 rfl (lv_at hl 1 rfl) ?_
      refine q_V (As := [.int (nI r1)]) (rest := []) ⟨hx, hb, hml, hown, hts⟩ (c_X3_teamsWithSheet l g (a 0) (v_now V) r1 (by omega) (by omega)) (cwV 1 hts gX4_ofRound_X3_teamsWithSheet rfl rfl rfl (by decide +kernel) ⟨Nat.le_of_ble_eq_true rfl, Nat.le_of_ble_eq_true rfl⟩) q_B_blind (va_recv hK (q_nowP (V := V) hP) (ci := 2) (q0 := 0) rfl rfl) (q_B_of (q_nowP (V := V) hP) hK hN) rfl hl.1 rfl (Nat.le_of_ble_eq_true rfl) dX4_ofRound_70 (Nat.zero_le _) (Nat.zero_le _) ?_
      exact q_iret hx hb hr hlk dX4_ofRound_73 (by simp [ofrR, bI, cr1, c_4, w_10_0, w_10_1])
    by_cases w_10_2 : z = 2
    · skip
      have tx_10 : (z : Int32).toInt = 2 := by rw [w_10_2]; decide
      refine lv_tableIn (tgt := 74) (off := 64) hx hb dX4_ofRound_10 (by rw [tx_10]; decide) (by rw [tx_10]; decide) (by rw [tx_10]; rfl) (by decide) ?_
      refine lv_aload_n hx hb dX4_ofRound_74 rfl (lv_at hl 0 rfl) ?_
      refine va_get (D := g.1) (ci := 3) (v := .ref (a 0 0)) (C := RX4) (T := TX4) (N := 5) hx hb hts hi_X4 hown hK hP 0 rfl rfl 0 (by decide) fl_12 (fun _ h9 => h9) rfl dX4_ofRound_75 ?_
      refine lv_iload_n hx hb dX4_ofRound_78 rfl (lv_at hl 1 rfl) ?_
      refine q_V (As := [.int (nI r1)]) (rest := []) ⟨hx, hb, hml, hown, hts⟩ (c_X3_teamsWithJoker l g (a 0) (v_now V) r1 (by omega) (by omega)) (cwV 1 hts gX4_ofRound_X3_teamsWithJoker rfl rfl rfl (by decide +kernel) ⟨Nat.le_of_ble_eq_true rfl, Nat.le_of_ble_eq_true rfl⟩) q_B_blind (va_recv hK (q_nowP (V := V) hP) (ci := 2) (q0 := 0) rfl rfl) (q_B_of (q_nowP (V := V) hP) hK hN) rfl hl.1 rfl (Nat.le_of_ble_eq_true rfl) dX4_ofRound_79 (Nat.zero_le _) (Nat.zero_le _) ?_
      exact q_iret hx hb hr hlk dX4_ofRound_82 (by simp [ofrR, bI, cr1, c_4, w_10_0, w_10_1, w_10_2])
    by_cases w_10_3 : z = 3
    · skip
      have tx_10 : (z : Int32).toInt = 3 := by rw [w_10_3]; decide
      refine lv_tableIn (tgt := 83) (off := 73) hx hb dX4_ofRound_10 (by rw [tx_10]; decide) (by rw [tx_10]; decide) (by rw [tx_10]; rfl) (by decide) ?_
      refine lv_aload_n hx hb dX4_ofRound_83 rfl (lv_at hl 0 rfl) ?_
      refine va_get (D := g.1) (ci := 3) (v := .ref (a 0 0)) (C := RX4) (T := TX4) (N := 5) hx hb hts hi_X4 hown hK hP 0 rfl rfl 0 (by decide) fl_12 (fun _ h9 => h9) rfl dX4_ofRound_84 ?_
      refine lv_iload_n hx hb dX4_ofRound_87 rfl (lv_at hl 1 rfl) ?_
      refine q_V (As := [.int (nI r1)]) (rest := []) ⟨hx, hb, hml, hown, hts⟩ (c_X3_teamsTold l g (a 0) (v_now V) r1 (by omega) (by omega)) (cwV 1 hts gX4_ofRound_X3_teamsTold rfl rfl rfl (by decide +kernel) ⟨Nat.le_of_ble_eq_true rfl, Nat.le_of_ble_eq_true rfl⟩) q_B_blind (va_recv hK (q_nowP (V := V) hP) (ci := 2) (q0 := 0) rfl rfl) (q_B_of (q_nowP (V := V) hP) hK hN) rfl hl.1 rfl (Nat.le_of_ble_eq_true rfl) dX4_ofRound_88 (Nat.zero_le _) (Nat.zero_le _) ?_
      exact q_iret hx hb hr hlk dX4_ofRound_91 (by simp [ofrR, bI, cr1, c_4, w_10_0, w_10_1, w_10_2, w_10_3])
    by_cases w_10_4 : z = 4
    · skip
      have tx_10 : (z : Int32).toInt = 4 := by rw [w_10_4]; decide
      refine lv_tableIn (tgt := 92) (off := 82) hx hb dX4_ofRound_10 (by rw [tx_10]; decide) (by rw [tx_10]; decide) (by rw [tx_10]; rfl) (by decide) ?_
      refine lv_aload_n hx hb dX4_ofRound_92 rfl (lv_at hl 0 rfl) ?_
      refine va_get (D := g.1) (ci := 3) (v := .ref (a 0 0)) (C := RX4) (T := TX4) (N := 5) hx hb hts hi_X4 hown hK hP 0 rfl rfl 0 (by decide) fl_12 (fun _ h9 => h9) rfl dX4_ofRound_93 ?_
      refine va_get (D := g.1) (ci := 2) (v := .ref (a 0 10)) (C := RX3) (T := TX3) (N := 12) hx hb hts hi_X3 hown hK hP 7 rfl rfl 9 (by decide) fl_145 (fun _ h9 => h9) rfl dX4_ofRound_96 ?_
      refine lv_iload_n hx hb dX4_ofRound_99 rfl (lv_at hl 1 rfl) ?_
      refine q_iald (j := r1) hx hb hK hP 17 0 rfl rfl (by omega) (by decide) dX4_ofRound_100 ?_
      exact q_iret hx hb hr hlk dX4_ofRound_101 (by simp [ofrR, bI, cr1, c_4, w_10_0, w_10_1, w_10_2, w_10_3, w_10_4])
    by_cases w_10_5 : z = 5
    · skip
      have tx_10 : (z : Int32).toInt = 5 := by rw [w_10_5]; decide
      refine lv_tableIn (tgt := 102) (off := 92) hx hb dX4_ofRound_10 (by rw [tx_10]; decide) (by rw [tx_10]; decide) (by rw [tx_10]; rfl) (by decide) ?_
      refine lv_aload_n hx hb dX4_ofRound_102 rfl (lv_at hl 0 rfl) ?_
      refine va_get (D := g.1) (ci := 3) (v := .ref (a 0 0)) (C := RX4) (T := TX4) (N := 5) hx hb hts hi_X4 hown hK hP 0 rfl rfl 0 (by decide) fl_12 (fun _ h9 => h9) rfl dX4_ofRound_103 ?_
      refine va_get (D := g.1) (ci := 2) (v := .int (nI (s_n (v_now V)))) (C := RX3) (T := TX3) (N := 12) hx hb hts hi_X3 hown hK hP 7 rfl rfl 10 (by decide) fl_52 (fun _ h9 => h9) rfl dX4_ofRound_106 ?_
      refine lv_if_ne (tgt := 117) hx hb dX4_ofRound_109 (by decide) (fun c_109 => ?_) (fun c_109 => ?_)
      · skip
        have c_109 : ¬ s_n (v_now V) = 0 := fun q => c_109 (by rw [q]; rfl)
        refine lv_aload_n hx hb dX4_ofRound_117 rfl (lv_at hl 0 rfl) ?_
        refine va_get (D := g.1) (ci := 3) (v := .ref (a 0 0)) (C := RX4) (T := TX4) (N := 5) hx hb hts hi_X4 hown hK hP 0 rfl rfl 0 (by decide) fl_12 (fun _ h9 => h9) rfl dX4_ofRound_118 ?_
        refine lv_iload_n hx hb dX4_ofRound_121 rfl (lv_at hl 1 rfl) ?_
        refine q_V (As := [.int (nI r1)]) (rest := []) ⟨hx, hb, hml, hown, hts⟩ (c_X3_greatestPoints l g (a 0) (v_now V) r1 (by omega) (by omega) (by omega)) (cwV 1 hts gX4_ofRound_X3_greatestPoints rfl rfl rfl (by decide +kernel) ⟨Nat.le_of_ble_eq_true rfl, Nat.le_of_ble_eq_true rfl⟩) q_B_blind (va_recv hK (q_nowP (V := V) hP) (ci := 2) (q0 := 0) rfl rfl) (q_B_of (q_nowP (V := V) hP) hK hN) rfl hl.1 rfl (Nat.le_of_ble_eq_true rfl) dX4_ofRound_122 (Nat.zero_le _) (Nat.zero_le _) ?_
        refine lv_bipush (v := 100) hx hb dX4_ofRound_125 (by decide) ?_
        refine lv_iadd hx hb dX4_ofRound_127 ?_
        exact q_iret hx hb hr hlk dX4_ofRound_128 (by simp [ofrR, bI, cr1, c_4, w_10_0, w_10_1, w_10_2, w_10_3, w_10_4, w_10_5, c_109])
      · skip
        have c_109 : s_n (v_now V) = 0 := (nI_eq (by omega) (by decide)).mp (show nI (s_n (v_now V)) = nI 0 from c_109)
        refine lv_bipush (v := (-6)) hx hb dX4_ofRound_112 (by decide) ?_
        refine lv_goto (tgt := 128) hx hb dX4_ofRound_114 (by decide) ?_
        exact q_iret hx hb hr hlk dX4_ofRound_128 (by simp [ofrR, bI, cr1, c_4, w_10_0, w_10_1, w_10_2, w_10_3, w_10_4, w_10_5, c_109])
    have tw_10 := q_tab (n := 6) (lo := 0) (x := z) (by decide) (lt_s (p := fun k => ¬ z = nI (k + 0)) (lt_s (p := fun k => ¬ z = nI (k + 0)) (lt_s (p := fun k => ¬ z = nI (k + 0)) (lt_s (p := fun k => ¬ z = nI (k + 0)) (lt_s (p := fun k => ¬ z = nI (k + 0)) (lt_s (p := fun k => ¬ z = nI (k + 0)) (lt_0) w_10_0) w_10_1) w_10_2) w_10_3) w_10_4) w_10_5)
    refine lv_tableOut (tgt := 129) hx hb dX4_ofRound_10 (by omega) (by decide) ?_
    refine lv_bipush (v := (-2)) hx hb dX4_ofRound_129 (by decide) ?_
    exact q_iret hx hb hr hlk dX4_ofRound_131 (by simp [ofrR, bI, cr1, c_4, w_10_0, w_10_1, w_10_2, w_10_3, w_10_4, w_10_5])
  · skip
    have c_4 : (isRd y) = false := bI_eq c_4
    refine lv_iconst (v := (-1)) hx hb dX4_ofRound_7 (by decide) ?_
    exact q_iret hx hb hr hlk dX4_ofRound_8 (by simp [ofrR, bI, c_4])

set_option maxHeartbeats 4000000 in
set_option maxRecDepth 100000 in
theorem c_X4_sheet (l : Launch) (g : q_G) (a : Nat → Nat → Nat) (b : Nat → Nat) (V : q_CV) (x : Int32) (y : Int32) (z : Int32) (h1_ : s_n (v_now V) ≤ 10) : q_PM l yX4_sheet wsX4_sheet { frames := 3, cells := 0, slots := 0, locals := 65 } [.ref (b 0), .int x, .int y, .int z] (q_B g (q_pqW g a b V)) (.int (sheR V x y z)) := by
  refine q_pm (cc := cX4_sheet) (maxL := 4) (ret := (some .int)) (by decide) rfl (Nat.le_of_ble_eq_true rfl) ?_
  intro p e s m args below meth c ls hx hb hml hown hts hr hlk hB hl
  obtain ⟨hP, hK, hN⟩ := hB
  have fl_12 := hts (.fieldLink RX4 12 "PubQuizzes" "now" "LPubQuizzes$State;") (by decide +kernel)
  have hi_X4 : ∀ w ∈ u_ws RX4 TX4 5, w ∈ wsX4_sheet := by decide +kernel
  have hl : lv_has ls 4 [(0, .ref (b 0)), (1, .int x), (2, .int y), (3, .int z)] := hl
  refine lv_aload_n hx hb dX4_sheet_0 rfl (lv_at hl 0 rfl) ?_
  refine va_get (D := g.1) (ci := 3) (v := .ref (a 0 0)) (C := RX4) (T := TX4) (N := 5) hx hb hts hi_X4 hown hK hP 0 rfl rfl 0 (by decide) fl_12 (fun _ h9 => h9) rfl dX4_sheet_1 ?_
  refine lv_iload_n hx hb dX4_sheet_4 rfl (lv_at hl 1 rfl) ?_
  refine q_V (As := [.int x]) (rest := []) ⟨hx, hb, hml, hown, hts⟩ (c_X3_isTeam l g (a 0) (v_now V) x ) (cwV 1 hts gX4_sheet_X3_isTeam rfl rfl rfl (by decide +kernel) ⟨Nat.le_of_ble_eq_true rfl, Nat.le_of_ble_eq_true rfl⟩) q_B_blind (va_recv hK (q_nowP (V := V) hP) (ci := 2) (q0 := 0) rfl rfl) (q_B_of (q_nowP (V := V) hP) hK hN) rfl hl.1 rfl (Nat.le_of_ble_eq_true rfl) dX4_sheet_5 (Nat.zero_le _) (Nat.zero_le _) ?_
  refine lv_if_eq (tgt := 30) hx hb dX4_sheet_8 (by decide) (fun c_8 => ?_) (fun c_8 => ?_)
  · skip
    have c_8 : (isTm (v_now V) x) = false := bI_eq c_8
    refine lv_iconst (v := (-1)) hx hb dX4_sheet_30 (by decide) ?_
    exact q_iret hx hb hr hlk dX4_sheet_31 (by simp [sheR, c_8])
  · skip
    have c_8 : (isTm (v_now V) x) = true := bI_ne c_8
    obtain ⟨t1, ht1, ht1x, rfl⟩ := isTm_of h1_ c_8
    have ct1 : tN (nI t1) = t1 := tN_n (by omega)
    refine lv_iload_n hx hb dX4_sheet_11 rfl (lv_at hl 2 rfl) ?_
    refine q_S (As := [.int y]) (rest := []) ⟨hx, hb, hml, hown, hts⟩ (c_X4_isRound l y ) (va_cwS 1 hts gX4_sheet_X4_isRound rfl rfl rfl (by decide +kernel) ⟨Nat.le_of_ble_eq_true rfl, Nat.le_of_ble_eq_true rfl⟩) q_Blind_t (fun _ _ _ => trivial) rfl hl.1 rfl (Nat.le_of_ble_eq_true rfl) dX4_sheet_12 (Nat.zero_le _) (Nat.zero_le _) ?_
    refine lv_if_eq (tgt := 30) hx hb dX4_sheet_15 (by decide) (fun c_15 => ?_) (fun c_15 => ?_)
    · skip
      have c_15 : (isRd y) = false := bI_eq c_15
      refine lv_iconst (v := (-1)) hx hb dX4_sheet_30 (by decide) ?_
      exact q_iret hx hb hr hlk dX4_sheet_31 (by simp [sheR, ct1, c_8, c_15])
    · skip
      have c_15 : (isRd y) = true := bI_ne c_15
      obtain ⟨r1, hr1, rfl⟩ := isRd_of c_15
      have cr1 : tN (nI r1) = r1 := tN_n (by omega)
      refine lv_aload_n hx hb dX4_sheet_18 rfl (lv_at hl 0 rfl) ?_
      refine va_get (D := g.1) (ci := 3) (v := .ref (a 0 0)) (C := RX4) (T := TX4) (N := 5) hx hb hts hi_X4 hown hK hP 0 rfl rfl 0 (by decide) fl_12 (fun _ h9 => h9) rfl dX4_sheet_19 ?_
      refine lv_iload_n hx hb dX4_sheet_22 rfl (lv_at hl 1 rfl) ?_
      refine lv_iload_n hx hb dX4_sheet_23 rfl (lv_at hl 2 rfl) ?_
      refine q_V (As := [.int (nI t1), .int (nI r1)]) (rest := []) ⟨hx, hb, hml, hown, hts⟩ (c_X3_hasSheet l g (a 0) (v_now V) t1 r1 (by omega) (by omega)) (cwV 2 hts gX4_sheet_X3_hasSheet rfl rfl rfl (by decide +kernel) ⟨Nat.le_of_ble_eq_true rfl, Nat.le_of_ble_eq_true rfl⟩) q_B_blind (va_recv hK (q_nowP (V := V) hP) (ci := 2) (q0 := 0) rfl rfl) (q_B_of (q_nowP (V := V) hP) hK hN) rfl hl.1 rfl (Nat.le_of_ble_eq_true rfl) dX4_sheet_24 (Nat.zero_le _) (Nat.zero_le _) ?_
      refine lv_if_ne (tgt := 32) hx hb dX4_sheet_27 (by decide) (fun c_27 => ?_) (fun c_27 => ?_)
      · skip
        have c_27 : (hasS (v_now V) t1 r1) = true := bI_ne c_27
        refine lv_iload_n hx hb dX4_sheet_32 rfl (lv_at hl 3 rfl) ?_
        by_cases w_33_0 : z = 0
        · skip
          have tx_33 : (z : Int32).toInt = 0 := by rw [w_33_0]; decide
          refine lv_tableIn (tgt := 68) (off := 35) hx hb dX4_sheet_33 (by rw [tx_33]; decide) (by rw [tx_33]; decide) (by rw [tx_33]; rfl) (by decide) ?_
          refine lv_aload_n hx hb dX4_sheet_68 rfl (lv_at hl 0 rfl) ?_
          refine va_get (D := g.1) (ci := 3) (v := .ref (a 0 0)) (C := RX4) (T := TX4) (N := 5) hx hb hts hi_X4 hown hK hP 0 rfl rfl 0 (by decide) fl_12 (fun _ h9 => h9) rfl dX4_sheet_69 ?_
          refine lv_iload_n hx hb dX4_sheet_72 rfl (lv_at hl 1 rfl) ?_
          refine lv_iload_n hx hb dX4_sheet_73 rfl (lv_at hl 2 rfl) ?_
          refine q_V (As := [.int (nI t1), .int (nI r1)]) (rest := []) ⟨hx, hb, hml, hown, hts⟩ (c_X3_isTold l g (a 0) (v_now V) t1 r1 (by omega) (by omega)) (cwV 2 hts gX4_sheet_X3_isTold rfl rfl rfl (by decide +kernel) ⟨Nat.le_of_ble_eq_true rfl, Nat.le_of_ble_eq_true rfl⟩) q_B_blind (va_recv hK (q_nowP (V := V) hP) (ci := 2) (q0 := 0) rfl rfl) (q_B_of (q_nowP (V := V) hP) hK hN) rfl hl.1 rfl (Nat.le_of_ble_eq_true rfl) dX4_sheet_74 (Nat.zero_le _) (Nat.zero_le _) ?_
          refine lv_if_eq (tgt := 95) hx hb dX4_sheet_77 (by decide) (fun c_77 => ?_) (fun c_77 => ?_)
          · skip
            have c_77 : (tldS (v_now V) t1 r1) = false := bI_eq c_77
            refine lv_bipush (v := (-6)) hx hb dX4_sheet_95 (by decide) ?_
            exact q_iret hx hb hr hlk dX4_sheet_97 (by simp [sheR, ct1, c_8, cr1, c_15, c_27, w_33_0, c_77])
          · skip
            have c_77 : (tldS (v_now V) t1 r1) = true := bI_ne c_77
            refine lv_aload_n hx hb dX4_sheet_80 rfl (lv_at hl 0 rfl) ?_
            refine va_get (D := g.1) (ci := 3) (v := .ref (a 0 0)) (C := RX4) (T := TX4) (N := 5) hx hb hts hi_X4 hown hK hP 0 rfl rfl 0 (by decide) fl_12 (fun _ h9 => h9) rfl dX4_sheet_81 ?_
            refine lv_iload_n hx hb dX4_sheet_84 rfl (lv_at hl 1 rfl) ?_
            refine lv_iload_n hx hb dX4_sheet_85 rfl (lv_at hl 2 rfl) ?_
            refine q_V (As := [.int (nI t1), .int (nI r1)]) (rest := []) ⟨hx, hb, hml, hown, hts⟩ (c_X3_markOf l g (a 0) (v_now V) t1 r1 (by omega) (by omega)) (cwV 2 hts gX4_sheet_X3_markOf rfl rfl rfl (by decide +kernel) ⟨Nat.le_of_ble_eq_true rfl, Nat.le_of_ble_eq_true rfl⟩) q_B_blind (va_recv hK (q_nowP (V := V) hP) (ci := 2) (q0 := 0) rfl rfl) (q_B_of (q_nowP (V := V) hP) hK hN) rfl hl.1 rfl (Nat.le_of_ble_eq_true rfl) dX4_sheet_86 (Nat.zero_le _) (Nat.zero_le _) ?_
            refine lv_bipush (v := 100) hx hb dX4_sheet_89 (by decide) ?_
            refine lv_iadd hx hb dX4_sheet_91 ?_
            refine lv_goto (tgt := 97) hx hb dX4_sheet_92 (by decide) ?_
            exact q_iret hx hb hr hlk dX4_sheet_97 (by simp [sheR, ct1, c_8, cr1, c_15, c_27, w_33_0, c_77])
        by_cases w_33_1 : z = 1
        · skip
          have tx_33 : (z : Int32).toInt = 1 := by rw [w_33_1]; decide
          refine lv_tableIn (tgt := 98) (off := 65) hx hb dX4_sheet_33 (by rw [tx_33]; decide) (by rw [tx_33]; decide) (by rw [tx_33]; rfl) (by decide) ?_
          refine lv_aload_n hx hb dX4_sheet_98 rfl (lv_at hl 0 rfl) ?_
          refine va_get (D := g.1) (ci := 3) (v := .ref (a 0 0)) (C := RX4) (T := TX4) (N := 5) hx hb hts hi_X4 hown hK hP 0 rfl rfl 0 (by decide) fl_12 (fun _ h9 => h9) rfl dX4_sheet_99 ?_
          refine lv_iload_n hx hb dX4_sheet_102 rfl (lv_at hl 1 rfl) ?_
          refine lv_iload_n hx hb dX4_sheet_103 rfl (lv_at hl 2 rfl) ?_
          refine q_V (As := [.int (nI t1), .int (nI r1)]) (rest := []) ⟨hx, hb, hml, hown, hts⟩ (c_X3_markerOf l g (a 0) (v_now V) t1 r1 (by omega) (by omega)) (cwV 2 hts gX4_sheet_X3_markerOf rfl rfl rfl (by decide +kernel) ⟨Nat.le_of_ble_eq_true rfl, Nat.le_of_ble_eq_true rfl⟩) q_B_blind (va_recv hK (q_nowP (V := V) hP) (ci := 2) (q0 := 0) rfl rfl) (q_B_of (q_nowP (V := V) hP) hK hN) rfl hl.1 rfl (Nat.le_of_ble_eq_true rfl) dX4_sheet_104 (Nat.zero_le _) (Nat.zero_le _) ?_
          exact q_iret hx hb hr hlk dX4_sheet_107 (by simp [sheR, ct1, c_8, cr1, c_15, c_27, w_33_0, w_33_1])
        by_cases w_33_2 : z = 2
        · skip
          have tx_33 : (z : Int32).toInt = 2 := by rw [w_33_2]; decide
          refine lv_tableIn (tgt := 108) (off := 75) hx hb dX4_sheet_33 (by rw [tx_33]; decide) (by rw [tx_33]; decide) (by rw [tx_33]; rfl) (by decide) ?_
          refine lv_aload_n hx hb dX4_sheet_108 rfl (lv_at hl 0 rfl) ?_
          refine va_get (D := g.1) (ci := 3) (v := .ref (a 0 0)) (C := RX4) (T := TX4) (N := 5) hx hb hts hi_X4 hown hK hP 0 rfl rfl 0 (by decide) fl_12 (fun _ h9 => h9) rfl dX4_sheet_109 ?_
          refine lv_iload_n hx hb dX4_sheet_112 rfl (lv_at hl 1 rfl) ?_
          refine lv_iload_n hx hb dX4_sheet_113 rfl (lv_at hl 2 rfl) ?_
          refine q_V (As := [.int (nI t1), .int (nI r1)]) (rest := []) ⟨hx, hb, hml, hown, hts⟩ (c_X3_pointsOf l g (a 0) (v_now V) t1 r1 (by omega) (by omega)) (cwV 2 hts gX4_sheet_X3_pointsOf rfl rfl rfl (by decide +kernel) ⟨Nat.le_of_ble_eq_true rfl, Nat.le_of_ble_eq_true rfl⟩) q_B_blind (va_recv hK (q_nowP (V := V) hP) (ci := 2) (q0 := 0) rfl rfl) (q_B_of (q_nowP (V := V) hP) hK hN) rfl hl.1 rfl (Nat.le_of_ble_eq_true rfl) dX4_sheet_114 (Nat.zero_le _) (Nat.zero_le _) ?_
          refine lv_bipush (v := 100) hx hb dX4_sheet_117 (by decide) ?_
          refine lv_iadd hx hb dX4_sheet_119 ?_
          exact q_iret hx hb hr hlk dX4_sheet_120 (by simp [sheR, ct1, c_8, cr1, c_15, c_27, w_33_0, w_33_1, w_33_2])
        by_cases w_33_3 : z = 3
        · skip
          have tx_33 : (z : Int32).toInt = 3 := by rw [w_33_3]; decide
          refine lv_tableIn (tgt := 121) (off := 88) hx hb dX4_sheet_33 (by rw [tx_33]; decide) (by rw [tx_33]; decide) (by rw [tx_33]; rfl) (by decide) ?_
          refine lv_aload_n hx hb dX4_sheet_121 rfl (lv_at hl 0 rfl) ?_
          refine va_get (D := g.1) (ci := 3) (v := .ref (a 0 0)) (C := RX4) (T := TX4) (N := 5) hx hb hts hi_X4 hown hK hP 0 rfl rfl 0 (by decide) fl_12 (fun _ h9 => h9) rfl dX4_sheet_122 ?_
          refine lv_iload_n hx hb dX4_sheet_125 rfl (lv_at hl 2 rfl) ?_
          refine q_V (As := [.int (nI r1)]) (rest := []) ⟨hx, hb, hml, hown, hts⟩ (c_X3_isOpen l g (a 0) (v_now V) r1 (by omega)) (cwV 1 hts gX4_sheet_X3_isOpen rfl rfl rfl (by decide +kernel) ⟨Nat.le_of_ble_eq_true rfl, Nat.le_of_ble_eq_true rfl⟩) q_B_blind (va_recv hK (q_nowP (V := V) hP) (ci := 2) (q0 := 0) rfl rfl) (q_B_of (q_nowP (V := V) hP) hK hN) rfl hl.1 rfl (Nat.le_of_ble_eq_true rfl) dX4_sheet_126 (Nat.zero_le _) (Nat.zero_le _) ?_
          refine lv_if_eq (tgt := 137) hx hb dX4_sheet_129 (by decide) (fun c_129 => ?_) (fun c_129 => ?_)
          · skip
            have c_129 : (isOp (v_now V) r1) = false := bI_eq c_129
            refine lv_aload_n hx hb dX4_sheet_137 rfl (lv_at hl 0 rfl) ?_
            refine va_get (D := g.1) (ci := 3) (v := .ref (a 0 0)) (C := RX4) (T := TX4) (N := 5) hx hb hts hi_X4 hown hK hP 0 rfl rfl 0 (by decide) fl_12 (fun _ h9 => h9) rfl dX4_sheet_138 ?_
            refine lv_iload_n hx hb dX4_sheet_141 rfl (lv_at hl 1 rfl) ?_
            refine lv_iload_n hx hb dX4_sheet_142 rfl (lv_at hl 2 rfl) ?_
            refine q_V (As := [.int (nI t1), .int (nI r1)]) (rest := []) ⟨hx, hb, hml, hown, hts⟩ (c_X3_trueMark l g (a 0) (v_now V) t1 r1 (by omega) (by omega)) (cwV 2 hts gX4_sheet_X3_trueMark rfl rfl rfl (by decide +kernel) ⟨Nat.le_of_ble_eq_true rfl, Nat.le_of_ble_eq_true rfl⟩) q_B_blind (va_recv hK (q_nowP (V := V) hP) (ci := 2) (q0 := 0) rfl rfl) (q_B_of (q_nowP (V := V) hP) hK hN) rfl hl.1 rfl (Nat.le_of_ble_eq_true rfl) dX4_sheet_143 (Nat.zero_le _) (Nat.zero_le _) ?_
            refine lv_bipush (v := 100) hx hb dX4_sheet_146 (by decide) ?_
            refine lv_iadd hx hb dX4_sheet_148 ?_
            exact q_iret hx hb hr hlk dX4_sheet_149 (by simp [sheR, ct1, c_8, cr1, c_15, c_27, w_33_0, w_33_1, w_33_2, w_33_3, c_129])
          · skip
            have c_129 : (isOp (v_now V) r1) = true := bI_ne c_129
            refine lv_bipush (v := (-6)) hx hb dX4_sheet_132 (by decide) ?_
            refine lv_goto (tgt := 149) hx hb dX4_sheet_134 (by decide) ?_
            exact q_iret hx hb hr hlk dX4_sheet_149 (by simp [sheR, ct1, c_8, cr1, c_15, c_27, w_33_0, w_33_1, w_33_2, w_33_3, c_129])
        by_cases w_33_4 : z = 4
        · skip
          have tx_33 : (z : Int32).toInt = 4 := by rw [w_33_4]; decide
          refine lv_tableIn (tgt := 150) (off := 117) hx hb dX4_sheet_33 (by rw [tx_33]; decide) (by rw [tx_33]; decide) (by rw [tx_33]; rfl) (by decide) ?_
          refine lv_aload_n hx hb dX4_sheet_150 rfl (lv_at hl 0 rfl) ?_
          refine va_get (D := g.1) (ci := 3) (v := .ref (a 0 0)) (C := RX4) (T := TX4) (N := 5) hx hb hts hi_X4 hown hK hP 0 rfl rfl 0 (by decide) fl_12 (fun _ h9 => h9) rfl dX4_sheet_151 ?_
          refine lv_iload_n hx hb dX4_sheet_154 rfl (lv_at hl 1 rfl) ?_
          refine lv_iload_n hx hb dX4_sheet_155 rfl (lv_at hl 2 rfl) ?_
          refine q_V (As := [.int (nI t1), .int (nI r1)]) (rest := []) ⟨hx, hb, hml, hown, hts⟩ (c_X3_answered l g (a 0) (v_now V) t1 r1 (by omega) (by omega)) (cwV 2 hts gX4_sheet_X3_answered rfl rfl rfl (by decide +kernel) ⟨Nat.le_of_ble_eq_true rfl, Nat.le_of_ble_eq_true rfl⟩) q_B_blind (va_recv hK (q_nowP (V := V) hP) (ci := 2) (q0 := 0) rfl rfl) (q_B_of (q_nowP (V := V) hP) hK hN) rfl hl.1 rfl (Nat.le_of_ble_eq_true rfl) dX4_sheet_156 (Nat.zero_le _) (Nat.zero_le _) ?_
          exact q_iret hx hb hr hlk dX4_sheet_159 (by simp [sheR, ct1, c_8, cr1, c_15, c_27, w_33_0, w_33_1, w_33_2, w_33_3, w_33_4])
        have tw_33 := q_tab (n := 5) (lo := 0) (x := z) (by decide) (lt_s (p := fun k => ¬ z = nI (k + 0)) (lt_s (p := fun k => ¬ z = nI (k + 0)) (lt_s (p := fun k => ¬ z = nI (k + 0)) (lt_s (p := fun k => ¬ z = nI (k + 0)) (lt_s (p := fun k => ¬ z = nI (k + 0)) (lt_0) w_33_0) w_33_1) w_33_2) w_33_3) w_33_4)
        refine lv_tableOut (tgt := 160) hx hb dX4_sheet_33 (by omega) (by decide) ?_
        refine lv_bipush (v := (-2)) hx hb dX4_sheet_160 (by decide) ?_
        exact q_iret hx hb hr hlk dX4_sheet_162 (by simp [sheR, ct1, c_8, cr1, c_15, c_27, w_33_0, w_33_1, w_33_2, w_33_3, w_33_4])
      · skip
        have c_27 : (hasS (v_now V) t1 r1) = false := bI_eq c_27
        refine lv_iconst (v := (-1)) hx hb dX4_sheet_30 (by decide) ?_
        exact q_iret hx hb hr hlk dX4_sheet_31 (by simp [sheR, ct1, c_8, cr1, c_15, c_27])

set_option maxHeartbeats 4000000 in
set_option maxRecDepth 100000 in
theorem c_X4_at (l : Launch) (g : q_G) (a : Nat → Nat → Nat) (b : Nat → Nat) (V : q_CV) (x : Int32) (h1_ : s_n (v_now V) ≤ 10) : q_PM l yX4_at wsX4_at { frames := 6, cells := 0, slots := 0, locals := 136 } [.ref (b 0), .int x] (q_B g (q_pqW g a b V)) (.int (atR V x)) := by
  refine q_pm (cc := cX4_at) (maxL := 3) (ret := (some .int)) (by decide) rfl (Nat.le_of_ble_eq_true rfl) ?_
  intro p e s m args below meth c ls hx hb hml hown hts hr hlk hB hl
  obtain ⟨hP, hK, hN⟩ := hB
  have fl_12 := hts (.fieldLink RX4 12 "PubQuizzes" "now" "LPubQuizzes$State;") (by decide +kernel)
  have fl_52 := hts (.fieldLink RX4 52 "PubQuizzes$State" "teams" "I") (by decide +kernel)
  have hi_X4 : ∀ w ∈ u_ws RX4 TX4 5, w ∈ wsX4_at := by decide +kernel
  have hi_X3 : ∀ w ∈ u_ws RX3 TX3 12, w ∈ wsX4_at := by decide +kernel
  have hl : lv_has ls 3 [(0, .ref (b 0)), (1, .int x)] := hl
  refine lv_iconst (v := 0) hx hb dX4_at_0 (by decide) ?_
  refine lv_istore_n (lv' := [(2, .int 0), (0, .ref (b 0)), (1, .int x)]) hx hb dX4_at_1 rfl hl (by decide) rfl (fun ls hl => ?_)
  have L_2 : ∀ (fu i2 : Nat), (lead (at_f (v_now V) x) i2 = i2) → i2 ≤ s_n (v_now V) → s_n (v_now V) < i2 + fu → ∀ ls : Array Slot, lv_has ls 3 [(2, .int (nI i2)), (0, .ref (b 0)), (1, .int x)] → W p l e { frames := 6, cells := 0, slots := 0, locals := 136 } s m args below meth c s.heap [] 0 0 (MQ below (k2_QcV (.int (atR V x))) args s 0 0 (fun _ => False)) (F0 m 2 ls []) := by
    intro fu
    induction fu with
    | zero => intro i2 hf hi_i2 hn_i2; exact absurd hn_i2 (by omega)
    | succ fu ih_i2 =>
      intro i2 hf hi_i2 hn_i2 ls hl
      refine lv_iload_n hx hb dX4_at_2 rfl (lv_at hl 0 rfl) ?_
      refine lv_aload_n hx hb dX4_at_3 rfl (lv_at hl 1 rfl) ?_
      refine va_get (D := g.1) (ci := 3) (v := .ref (a 0 0)) (C := RX4) (T := TX4) (N := 5) hx hb hts hi_X4 hown hK hP 0 rfl rfl 0 (by decide) fl_12 (fun _ h9 => h9) rfl dX4_at_4 ?_
      refine va_get (D := g.1) (ci := 2) (v := .int (nI (s_n (v_now V)))) (C := RX3) (T := TX3) (N := 12) hx hb hts hi_X3 hown hK hP 7 rfl rfl 10 (by decide) fl_52 (fun _ h9 => h9) rfl dX4_at_7 ?_
      refine lv_icmp_ge (tgt := 33) hx hb dX4_at_10 (by decide) (fun c_10 => ?_) (fun c_10 => ?_)
      · skip
        have e_10 : i2 = s_n (v_now V) := q_ge_T (by omega) hi_i2 c_10
        rw [e_10] at hf
        refine lv_iconst (v := (-1)) hx hb dX4_at_33 (by decide) ?_
        exact q_iret hx hb hr hlk dX4_at_34 (by rw [atR, if_pos hf])
      · skip
        have lt_i2 : i2 < s_n (v_now V) := q_ge_F (by omega) hi_i2 c_10
        refine lv_aload_n hx hb dX4_at_13 rfl (lv_at hl 1 rfl) ?_
        refine va_get (D := g.1) (ci := 3) (v := .ref (a 0 0)) (C := RX4) (T := TX4) (N := 5) hx hb hts hi_X4 hown hK hP 0 rfl rfl 0 (by decide) fl_12 (fun _ h9 => h9) rfl dX4_at_14 ?_
        refine lv_iload_n hx hb dX4_at_17 rfl (lv_at hl 0 rfl) ?_
        refine q_V (As := [.int (nI i2)]) (rest := []) ⟨hx, hb, hml, hown, hts⟩ (c_X3_placeOf l g (a 0) (v_now V) i2 (by omega) (by omega) (by omega)) (cwV 1 hts gX4_at_X3_placeOf rfl rfl rfl (by decide +kernel) ⟨Nat.le_of_ble_eq_true rfl, Nat.le_of_ble_eq_true rfl⟩) q_B_blind (va_recv hK (q_nowP (V := V) hP) (ci := 2) (q0 := 0) rfl rfl) (q_B_of (q_nowP (V := V) hP) hK hN) rfl hl.1 rfl (Nat.le_of_ble_eq_true rfl) dX4_at_18 (Nat.zero_le _) (Nat.zero_le _) ?_
        refine lv_iload_n hx hb dX4_at_21 rfl (lv_at hl 2 rfl) ?_
        refine lv_icmp_ne (tgt := 27) hx hb dX4_at_22 (by decide) (fun c_22 => ?_) (fun c_22 => ?_)
        · skip
          refine lv_iinc (v := nI (i2 + 1)) (lv' := [(2, .int (nI (i2 + 1))), (0, .ref (b 0)), (1, .int x)]) hx hb dX4_at_27 hl (k := 0) rfl (nI_1 _) (by decide) rfl (fun ls hl => ?_)
          refine lv_goto (tgt := 2) hx hb dX4_at_30 (by decide) ?_
          exact ih_i2 (i2 + 1) (lead_s hf (by simp [at_f, c_22])) lt_i2 (by omega) ls (lv_sub hl [0, 1, 2] rfl)
        · skip
          refine lv_iload_n hx hb dX4_at_25 rfl (lv_at hl 0 rfl) ?_
          exact q_iret hx hb hr hlk dX4_at_26 (by rw [atR, lead_stop hf (by simp [at_f, c_22]) (Nat.le_of_lt lt_i2), if_neg (by omega)])
  exact L_2 (s_n (v_now V) + 1) 0 (rfl) (Nat.zero_le _) (by omega) ls (lv_sub hl [0, 1, 2] rfl)

set_option maxHeartbeats 4000000 in
set_option maxRecDepth 100000 in
theorem c_X4_count (l : Launch) (g : q_G) (a : Nat → Nat → Nat) (b : Nat → Nat) (V : q_CV) (z : Int32) (h1_ : s_n (v_now V) ≤ 10) : q_PM l yX4_count wsX4_count { frames := 5, cells := 0, slots := 0, locals := 114 } [.ref (b 0), .int z] (q_B g (q_pqW g a b V)) (.int (couR V z)) := by
  refine q_pm (cc := cX4_count) (maxL := 2) (ret := (some .int)) (by decide) rfl (Nat.le_of_ble_eq_true rfl) ?_
  intro p e s m args below meth c ls hx hb hml hown hts hr hlk hB hl
  obtain ⟨hP, hK, hN⟩ := hB
  have fl_12 := hts (.fieldLink RX4 12 "PubQuizzes" "now" "LPubQuizzes$State;") (by decide +kernel)
  have fl_19 := hts (.fieldLink RX4 19 "PubQuizzes" "history" "LPubQuizzes$History;") (by decide +kernel)
  have fl_26 := hts (.fieldLink RX4 26 "PubQuizzes" "pad" "LPubQuizzes$Pad;") (by decide +kernel)
  have fl_49 := hts (.fieldLink RX4 49 "PubQuizzes$State" "settings" "[I") (by decide +kernel)
  have fl_52 := hts (.fieldLink RX4 52 "PubQuizzes$State" "teams" "I") (by decide +kernel)
  have fl_148 := hts (.fieldLink RX4 148 "PubQuizzes$State" "truth" "I") (by decide +kernel)
  have hi_X4 : ∀ w ∈ u_ws RX4 TX4 5, w ∈ wsX4_count := by decide +kernel
  have hi_X3 : ∀ w ∈ u_ws RX3 TX3 12, w ∈ wsX4_count := by decide +kernel
  have hl : lv_has ls 2 [(0, .ref (b 0)), (1, .int z)] := hl
  refine lv_iload_n hx hb dX4_count_0 rfl (lv_at hl 1 rfl) ?_
  by_cases w_1_0 : z = 0
  · skip
    have tx_1 : (z : Int32).toInt = 0 := by rw [w_1_0]; decide
    refine lv_tableIn (tgt := 76) (off := 75) hx hb dX4_count_1 (by rw [tx_1]; decide) (by rw [tx_1]; decide) (by rw [tx_1]; rfl) (by decide) ?_
    refine lv_aload_n hx hb dX4_count_76 rfl (lv_at hl 0 rfl) ?_
    refine va_get (D := g.1) (ci := 3) (v := .ref (a 0 0)) (C := RX4) (T := TX4) (N := 5) hx hb hts hi_X4 hown hK hP 0 rfl rfl 0 (by decide) fl_12 (fun _ h9 => h9) rfl dX4_count_77 ?_
    refine va_get (D := g.1) (ci := 2) (v := .int (nI (s_n (v_now V)))) (C := RX3) (T := TX3) (N := 12) hx hb hts hi_X3 hown hK hP 7 rfl rfl 10 (by decide) fl_52 (fun _ h9 => h9) rfl dX4_count_80 ?_
    exact q_iret hx hb hr hlk dX4_count_83 (by simp [couR, w_1_0])
  by_cases w_1_1 : z = 1
  · skip
    have tx_1 : (z : Int32).toInt = 1 := by rw [w_1_1]; decide
    refine lv_tableIn (tgt := 84) (off := 83) hx hb dX4_count_1 (by rw [tx_1]; decide) (by rw [tx_1]; decide) (by rw [tx_1]; rfl) (by decide) ?_
    refine lv_aload_n hx hb dX4_count_84 rfl (lv_at hl 0 rfl) ?_
    refine va_get (D := g.1) (ci := 3) (v := .ref (a 0 0)) (C := RX4) (T := TX4) (N := 5) hx hb hts hi_X4 hown hK hP 0 rfl rfl 0 (by decide) fl_12 (fun _ h9 => h9) rfl dX4_count_85 ?_
    refine q_V (As := []) (rest := []) ⟨hx, hb, hml, hown, hts⟩ (c_X3_entries l g (a 0) (v_now V)  (by omega)) (cwV 0 hts gX4_count_X3_entries rfl rfl rfl (by decide +kernel) ⟨Nat.le_of_ble_eq_true rfl, Nat.le_of_ble_eq_true rfl⟩) q_B_blind (va_recv hK (q_nowP (V := V) hP) (ci := 2) (q0 := 0) rfl rfl) (q_B_of (q_nowP (V := V) hP) hK hN) rfl hl.1 rfl (Nat.le_of_ble_eq_true rfl) dX4_count_88 (Nat.zero_le _) (Nat.zero_le _) ?_
    exact q_iret hx hb hr hlk dX4_count_91 (by simp [couR, w_1_0, w_1_1])
  by_cases w_1_2 : z = 2
  · skip
    have tx_1 : (z : Int32).toInt = 2 := by rw [w_1_2]; decide
    refine lv_tableIn (tgt := 92) (off := 91) hx hb dX4_count_1 (by rw [tx_1]; decide) (by rw [tx_1]; decide) (by rw [tx_1]; rfl) (by decide) ?_
    refine lv_aload_n hx hb dX4_count_92 rfl (lv_at hl 0 rfl) ?_
    refine va_get (D := g.1) (ci := 3) (v := .ref (a 0 0)) (C := RX4) (T := TX4) (N := 5) hx hb hts hi_X4 hown hK hP 0 rfl rfl 0 (by decide) fl_12 (fun _ h9 => h9) rfl dX4_count_93 ?_
    refine q_V (As := []) (rest := []) ⟨hx, hb, hml, hown, hts⟩ (c_X3_ofTheHouse l g (a 0) (v_now V)  (by omega)) (cwV 0 hts gX4_count_X3_ofTheHouse rfl rfl rfl (by decide +kernel) ⟨Nat.le_of_ble_eq_true rfl, Nat.le_of_ble_eq_true rfl⟩) q_B_blind (va_recv hK (q_nowP (V := V) hP) (ci := 2) (q0 := 0) rfl rfl) (q_B_of (q_nowP (V := V) hP) hK hN) rfl hl.1 rfl (Nat.le_of_ble_eq_true rfl) dX4_count_96 (Nat.zero_le _) (Nat.zero_le _) ?_
    exact q_iret hx hb hr hlk dX4_count_99 (by simp [couR, w_1_0, w_1_1, w_1_2])
  by_cases w_1_3 : z = 3
  · skip
    have tx_1 : (z : Int32).toInt = 3 := by rw [w_1_3]; decide
    refine lv_tableIn (tgt := 100) (off := 99) hx hb dX4_count_1 (by rw [tx_1]; decide) (by rw [tx_1]; decide) (by rw [tx_1]; rfl) (by decide) ?_
    refine lv_aload_n hx hb dX4_count_100 rfl (lv_at hl 0 rfl) ?_
    refine va_get (D := g.1) (ci := 3) (v := .ref (a 0 0)) (C := RX4) (T := TX4) (N := 5) hx hb hts hi_X4 hown hK hP 0 rfl rfl 0 (by decide) fl_12 (fun _ h9 => h9) rfl dX4_count_101 ?_
    refine q_V (As := []) (rest := []) ⟨hx, hb, hml, hown, hts⟩ (c_X3_pot l g (a 0) (v_now V)  (by omega)) (cwV 0 hts gX4_count_X3_pot rfl rfl rfl (by decide +kernel) ⟨Nat.le_of_ble_eq_true rfl, Nat.le_of_ble_eq_true rfl⟩) q_B_blind (va_recv hK (q_nowP (V := V) hP) (ci := 2) (q0 := 0) rfl rfl) (q_B_of (q_nowP (V := V) hP) hK hN) rfl hl.1 rfl (Nat.le_of_ble_eq_true rfl) dX4_count_104 (Nat.zero_le _) (Nat.zero_le _) ?_
    exact q_iret hx hb hr hlk dX4_count_107 (by simp [couR, w_1_0, w_1_1, w_1_2, w_1_3])
  by_cases w_1_4 : z = 4
  · skip
    have tx_1 : (z : Int32).toInt = 4 := by rw [w_1_4]; decide
    refine lv_tableIn (tgt := 108) (off := 107) hx hb dX4_count_1 (by rw [tx_1]; decide) (by rw [tx_1]; decide) (by rw [tx_1]; rfl) (by decide) ?_
    refine lv_aload_n hx hb dX4_count_108 rfl (lv_at hl 0 rfl) ?_
    refine va_get (D := g.1) (ci := 3) (v := .ref (a 0 0)) (C := RX4) (T := TX4) (N := 5) hx hb hts hi_X4 hown hK hP 0 rfl rfl 0 (by decide) fl_12 (fun _ h9 => h9) rfl dX4_count_109 ?_
    refine q_V (As := []) (rest := []) ⟨hx, hb, hml, hown, hts⟩ (c_X3_openRounds l g (a 0) (v_now V)  ) (cwV 0 hts gX4_count_X3_openRounds rfl rfl rfl (by decide +kernel) ⟨Nat.le_of_ble_eq_true rfl, Nat.le_of_ble_eq_true rfl⟩) q_B_blind (va_recv hK (q_nowP (V := V) hP) (ci := 2) (q0 := 0) rfl rfl) (q_B_of (q_nowP (V := V) hP) hK hN) rfl hl.1 rfl (Nat.le_of_ble_eq_true rfl) dX4_count_112 (Nat.zero_le _) (Nat.zero_le _) ?_
    exact q_iret hx hb hr hlk dX4_count_115 (by simp [couR, w_1_0, w_1_1, w_1_2, w_1_3, w_1_4])
  by_cases w_1_5 : z = 5
  · skip
    have tx_1 : (z : Int32).toInt = 5 := by rw [w_1_5]; decide
    refine lv_tableIn (tgt := 116) (off := 115) hx hb dX4_count_1 (by rw [tx_1]; decide) (by rw [tx_1]; decide) (by rw [tx_1]; rfl) (by decide) ?_
    refine lv_aload_n hx hb dX4_count_116 rfl (lv_at hl 0 rfl) ?_
    refine va_get (D := g.1) (ci := 3) (v := .ref (a 0 0)) (C := RX4) (T := TX4) (N := 5) hx hb hts hi_X4 hown hK hP 0 rfl rfl 0 (by decide) fl_12 (fun _ h9 => h9) rfl dX4_count_117 ?_
    refine q_V (As := []) (rest := []) ⟨hx, hb, hml, hown, hts⟩ (c_X3_allFines l g (a 0) (v_now V)  (by omega)) (cwV 0 hts gX4_count_X3_allFines rfl rfl rfl (by decide +kernel) ⟨Nat.le_of_ble_eq_true rfl, Nat.le_of_ble_eq_true rfl⟩) q_B_blind (va_recv hK (q_nowP (V := V) hP) (ci := 2) (q0 := 0) rfl rfl) (q_B_of (q_nowP (V := V) hP) hK hN) rfl hl.1 rfl (Nat.le_of_ble_eq_true rfl) dX4_count_120 (Nat.zero_le _) (Nat.zero_le _) ?_
    exact q_iret hx hb hr hlk dX4_count_123 (by simp [couR, w_1_0, w_1_1, w_1_2, w_1_3, w_1_4, w_1_5])
  by_cases w_1_6 : z = 6
  · skip
    have tx_1 : (z : Int32).toInt = 6 := by rw [w_1_6]; decide
    refine lv_tableIn (tgt := 124) (off := 123) hx hb dX4_count_1 (by rw [tx_1]; decide) (by rw [tx_1]; decide) (by rw [tx_1]; rfl) (by decide) ?_
    refine lv_aload_n hx hb dX4_count_124 rfl (lv_at hl 0 rfl) ?_
    refine va_get (D := g.1) (ci := 3) (v := .ref (a 0 0)) (C := RX4) (T := TX4) (N := 5) hx hb hts hi_X4 hown hK hP 0 rfl rfl 0 (by decide) fl_12 (fun _ h9 => h9) rfl dX4_count_125 ?_
    refine q_V (As := []) (rest := []) ⟨hx, hb, hml, hown, hts⟩ (c_X3_allLooks l g (a 0) (v_now V)  ) (cwV 0 hts gX4_count_X3_allLooks rfl rfl rfl (by decide +kernel) ⟨Nat.le_of_ble_eq_true rfl, Nat.le_of_ble_eq_true rfl⟩) q_B_blind (va_recv hK (q_nowP (V := V) hP) (ci := 2) (q0 := 0) rfl rfl) (q_B_of (q_nowP (V := V) hP) hK hN) rfl hl.1 rfl (Nat.le_of_ble_eq_true rfl) dX4_count_128 (Nat.zero_le _) (Nat.zero_le _) ?_
    exact q_iret hx hb hr hlk dX4_count_131 (by simp [couR, w_1_0, w_1_1, w_1_2, w_1_3, w_1_4, w_1_5, w_1_6])
  by_cases w_1_7 : z = 7
  · skip
    have tx_1 : (z : Int32).toInt = 7 := by rw [w_1_7]; decide
    refine lv_tableIn (tgt := 132) (off := 131) hx hb dX4_count_1 (by rw [tx_1]; decide) (by rw [tx_1]; decide) (by rw [tx_1]; rfl) (by decide) ?_
    refine lv_aload_n hx hb dX4_count_132 rfl (lv_at hl 0 rfl) ?_
    refine va_get (D := g.1) (ci := 3) (v := .ref (a 0 0)) (C := RX4) (T := TX4) (N := 5) hx hb hts hi_X4 hown hK hP 0 rfl rfl 0 (by decide) fl_12 (fun _ h9 => h9) rfl dX4_count_133 ?_
    refine va_get (D := g.1) (ci := 2) (v := .int (s_tru (v_now V))) (C := RX3) (T := TX3) (N := 12) hx hb hts hi_X3 hown hK hP 7 rfl rfl 11 (by decide) fl_148 (fun _ h9 => h9) rfl dX4_count_136 ?_
    exact q_iret hx hb hr hlk dX4_count_139 (by simp [couR, w_1_0, w_1_1, w_1_2, w_1_3, w_1_4, w_1_5, w_1_6, w_1_7])
  by_cases w_1_8 : z = 8
  · skip
    have tx_1 : (z : Int32).toInt = 8 := by rw [w_1_8]; decide
    refine lv_tableIn (tgt := 140) (off := 139) hx hb dX4_count_1 (by rw [tx_1]; decide) (by rw [tx_1]; decide) (by rw [tx_1]; rfl) (by decide) ?_
    refine lv_aload_n hx hb dX4_count_140 rfl (lv_at hl 0 rfl) ?_
    refine va_get (D := g.1) (ci := 3) (v := .ref (a 0 0)) (C := RX4) (T := TX4) (N := 5) hx hb hts hi_X4 hown hK hP 0 rfl rfl 0 (by decide) fl_12 (fun _ h9 => h9) rfl dX4_count_141 ?_
    refine q_V (As := []) (rest := []) ⟨hx, hb, hml, hown, hts⟩ (c_X3_unlikeScores l g (a 0) (v_now V)  (by omega)) (cwV 0 hts gX4_count_X3_unlikeScores rfl rfl rfl (by decide +kernel) ⟨Nat.le_of_ble_eq_true rfl, Nat.le_of_ble_eq_true rfl⟩) q_B_blind (va_recv hK (q_nowP (V := V) hP) (ci := 2) (q0 := 0) rfl rfl) (q_B_of (q_nowP (V := V) hP) hK hN) rfl hl.1 rfl (Nat.le_of_ble_eq_true rfl) dX4_count_144 (Nat.zero_le _) (Nat.zero_le _) ?_
    exact q_iret hx hb hr hlk dX4_count_147 (by simp [couR, w_1_0, w_1_1, w_1_2, w_1_3, w_1_4, w_1_5, w_1_6, w_1_7, w_1_8])
  by_cases w_1_9 : z = 9
  · skip
    have tx_1 : (z : Int32).toInt = 9 := by rw [w_1_9]; decide
    refine lv_tableIn (tgt := 148) (off := 147) hx hb dX4_count_1 (by rw [tx_1]; decide) (by rw [tx_1]; decide) (by rw [tx_1]; rfl) (by decide) ?_
    refine lv_aload_n hx hb dX4_count_148 rfl (lv_at hl 0 rfl) ?_
    refine va_get (D := g.1) (ci := 3) (v := .ref (a 0 0)) (C := RX4) (T := TX4) (N := 5) hx hb hts hi_X4 hown hK hP 0 rfl rfl 0 (by decide) fl_12 (fun _ h9 => h9) rfl dX4_count_149 ?_
    refine va_get (D := g.1) (ci := 2) (v := .ref (a 0 1)) (C := RX3) (T := TX3) (N := 12) hx hb hts hi_X3 hown hK hP 7 rfl rfl 0 (by decide) fl_49 (fun _ h9 => h9) rfl dX4_count_152 ?_
    refine lv_iconst (v := 0) hx hb dX4_count_155 (by decide) ?_
    refine q_iald (j := 0) hx hb hK hP 8 0 rfl rfl (by omega) (by decide) dX4_count_156 ?_
    exact q_iret hx hb hr hlk dX4_count_157 (by simp [couR, w_1_0, w_1_1, w_1_2, w_1_3, w_1_4, w_1_5, w_1_6, w_1_7, w_1_8, w_1_9])
  by_cases w_1_10 : z = 10
  · skip
    have tx_1 : (z : Int32).toInt = 10 := by rw [w_1_10]; decide
    refine lv_tableIn (tgt := 158) (off := 157) hx hb dX4_count_1 (by rw [tx_1]; decide) (by rw [tx_1]; decide) (by rw [tx_1]; rfl) (by decide) ?_
    refine lv_aload_n hx hb dX4_count_158 rfl (lv_at hl 0 rfl) ?_
    refine va_get (D := g.1) (ci := 3) (v := .ref (a 0 0)) (C := RX4) (T := TX4) (N := 5) hx hb hts hi_X4 hown hK hP 0 rfl rfl 0 (by decide) fl_12 (fun _ h9 => h9) rfl dX4_count_159 ?_
    refine va_get (D := g.1) (ci := 2) (v := .ref (a 0 1)) (C := RX3) (T := TX3) (N := 12) hx hb hts hi_X3 hown hK hP 7 rfl rfl 0 (by decide) fl_49 (fun _ h9 => h9) rfl dX4_count_162 ?_
    refine lv_iconst (v := 1) hx hb dX4_count_165 (by decide) ?_
    refine q_iald (j := 1) hx hb hK hP 8 0 rfl rfl (by omega) (by decide) dX4_count_166 ?_
    exact q_iret hx hb hr hlk dX4_count_167 (by simp [couR, w_1_0, w_1_1, w_1_2, w_1_3, w_1_4, w_1_5, w_1_6, w_1_7, w_1_8, w_1_9, w_1_10])
  by_cases w_1_11 : z = 11
  · skip
    have tx_1 : (z : Int32).toInt = 11 := by rw [w_1_11]; decide
    refine lv_tableIn (tgt := 168) (off := 167) hx hb dX4_count_1 (by rw [tx_1]; decide) (by rw [tx_1]; decide) (by rw [tx_1]; rfl) (by decide) ?_
    refine lv_aload_n hx hb dX4_count_168 rfl (lv_at hl 0 rfl) ?_
    refine va_get (D := g.1) (ci := 3) (v := .ref (a 0 0)) (C := RX4) (T := TX4) (N := 5) hx hb hts hi_X4 hown hK hP 0 rfl rfl 0 (by decide) fl_12 (fun _ h9 => h9) rfl dX4_count_169 ?_
    refine va_get (D := g.1) (ci := 2) (v := .ref (a 0 1)) (C := RX3) (T := TX3) (N := 12) hx hb hts hi_X3 hown hK hP 7 rfl rfl 0 (by decide) fl_49 (fun _ h9 => h9) rfl dX4_count_172 ?_
    refine lv_iconst (v := 2) hx hb dX4_count_175 (by decide) ?_
    refine q_iald (j := 2) hx hb hK hP 8 0 rfl rfl (by omega) (by decide) dX4_count_176 ?_
    exact q_iret hx hb hr hlk dX4_count_177 (by simp [couR, w_1_0, w_1_1, w_1_2, w_1_3, w_1_4, w_1_5, w_1_6, w_1_7, w_1_8, w_1_9, w_1_10, w_1_11])
  by_cases w_1_12 : z = 12
  · skip
    have tx_1 : (z : Int32).toInt = 12 := by rw [w_1_12]; decide
    refine lv_tableIn (tgt := 178) (off := 177) hx hb dX4_count_1 (by rw [tx_1]; decide) (by rw [tx_1]; decide) (by rw [tx_1]; rfl) (by decide) ?_
    refine lv_aload_n hx hb dX4_count_178 rfl (lv_at hl 0 rfl) ?_
    refine va_get (D := g.1) (ci := 3) (v := .ref (a 0 0)) (C := RX4) (T := TX4) (N := 5) hx hb hts hi_X4 hown hK hP 0 rfl rfl 0 (by decide) fl_12 (fun _ h9 => h9) rfl dX4_count_179 ?_
    refine va_get (D := g.1) (ci := 2) (v := .ref (a 0 1)) (C := RX3) (T := TX3) (N := 12) hx hb hts hi_X3 hown hK hP 7 rfl rfl 0 (by decide) fl_49 (fun _ h9 => h9) rfl dX4_count_182 ?_
    refine lv_iconst (v := 3) hx hb dX4_count_185 (by decide) ?_
    refine q_iald (j := 3) hx hb hK hP 8 0 rfl rfl (by omega) (by decide) dX4_count_186 ?_
    exact q_iret hx hb hr hlk dX4_count_187 (by simp [couR, w_1_0, w_1_1, w_1_2, w_1_3, w_1_4, w_1_5, w_1_6, w_1_7, w_1_8, w_1_9, w_1_10, w_1_11, w_1_12])
  by_cases w_1_13 : z = 13
  · skip
    have tx_1 : (z : Int32).toInt = 13 := by rw [w_1_13]; decide
    refine lv_tableIn (tgt := 188) (off := 187) hx hb dX4_count_1 (by rw [tx_1]; decide) (by rw [tx_1]; decide) (by rw [tx_1]; rfl) (by decide) ?_
    refine lv_aload_n hx hb dX4_count_188 rfl (lv_at hl 0 rfl) ?_
    refine va_get (D := g.1) (ci := 3) (v := .ref (b 1)) (C := RX4) (T := TX4) (N := 5) hx hb hts hi_X4 hown hK hP 0 rfl rfl 2 (by decide) fl_26 (fun _ h9 => h9) rfl dX4_count_189 ?_
    refine q_V (As := []) (rest := []) ⟨hx, hb, hml, hown, hts⟩ (c_X1_length l g (b 1) (b 2) (v_pc V) (v_pl V)  ) (cwV 0 hts gX4_count_X1_length rfl rfl rfl (by decide +kernel) ⟨Nat.le_of_ble_eq_true rfl, Nat.le_of_ble_eq_true rfl⟩) q_B_blind (va_recv hK (q_padP (V := V) hP) (ci := 1) (q0 := 0) rfl rfl) (q_B_of (q_padP (V := V) hP) hK hN) rfl hl.1 rfl (Nat.le_of_ble_eq_true rfl) dX4_count_192 (Nat.zero_le _) (Nat.zero_le _) ?_
    exact q_iret hx hb hr hlk dX4_count_195 (by simp [couR, w_1_0, w_1_1, w_1_2, w_1_3, w_1_4, w_1_5, w_1_6, w_1_7, w_1_8, w_1_9, w_1_10, w_1_11, w_1_12, w_1_13])
  by_cases w_1_14 : z = 14
  · skip
    have tx_1 : (z : Int32).toInt = 14 := by rw [w_1_14]; decide
    refine lv_tableIn (tgt := 196) (off := 195) hx hb dX4_count_1 (by rw [tx_1]; decide) (by rw [tx_1]; decide) (by rw [tx_1]; rfl) (by decide) ?_
    refine lv_aload_n hx hb dX4_count_196 rfl (lv_at hl 0 rfl) ?_
    refine va_get (D := g.1) (ci := 3) (v := .ref (b 3)) (C := RX4) (T := TX4) (N := 5) hx hb hts hi_X4 hown hK hP 0 rfl rfl 1 (by decide) fl_19 (fun _ h9 => h9) rfl dX4_count_197 ?_
    refine q_V (As := []) (rest := []) ⟨hx, hb, hml, hown, hts⟩ (c_X0_length l g (b 3) (b 4) (v_nxt V) (v_hl V)  ) (cwV 0 hts gX4_count_X0_length rfl rfl rfl (by decide +kernel) ⟨Nat.le_of_ble_eq_true rfl, Nat.le_of_ble_eq_true rfl⟩) q_B_blind (va_recv hK (q_hisP (V := V) hP) (ci := 0) (q0 := 0) rfl rfl) (q_B_of (q_hisP (V := V) hP) hK hN) rfl hl.1 rfl (Nat.le_of_ble_eq_true rfl) dX4_count_200 (Nat.zero_le _) (Nat.zero_le _) ?_
    exact q_iret hx hb hr hlk dX4_count_203 (by simp [couR, w_1_0, w_1_1, w_1_2, w_1_3, w_1_4, w_1_5, w_1_6, w_1_7, w_1_8, w_1_9, w_1_10, w_1_11, w_1_12, w_1_13, w_1_14])
  have tw_1 := q_tab (n := 15) (lo := 0) (x := z) (by decide) (lt_s (p := fun k => ¬ z = nI (k + 0)) (lt_s (p := fun k => ¬ z = nI (k + 0)) (lt_s (p := fun k => ¬ z = nI (k + 0)) (lt_s (p := fun k => ¬ z = nI (k + 0)) (lt_s (p := fun k => ¬ z = nI (k + 0)) (lt_s (p := fun k => ¬ z = nI (k + 0)) (lt_s (p := fun k => ¬ z = nI (k + 0)) (lt_s (p := fun k => ¬ z = nI (k + 0)) (lt_s (p := fun k => ¬ z = nI (k + 0)) (lt_s (p := fun k => ¬ z = nI (k + 0)) (lt_s (p := fun k => ¬ z = nI (k + 0)) (lt_s (p := fun k => ¬ z = nI (k + 0)) (lt_s (p := fun k => ¬ z = nI (k + 0)) (lt_s (p := fun k => ¬ z = nI (k + 0)) (lt_s (p := fun k => ¬ z = nI (k + 0)) (lt_0) w_1_0) w_1_1) w_1_2) w_1_3) w_1_4) w_1_5) w_1_6) w_1_7) w_1_8) w_1_9) w_1_10) w_1_11) w_1_12) w_1_13) w_1_14)
  refine lv_tableOut (tgt := 204) hx hb dX4_count_1 (by omega) (by decide) ?_
  refine lv_bipush (v := (-2)) hx hb dX4_count_204 (by decide) ?_
  exact q_iret hx hb hr hlk dX4_count_206 (by simp [couR, w_1_0, w_1_1, w_1_2, w_1_3, w_1_4, w_1_5, w_1_6, w_1_7, w_1_8, w_1_9, w_1_10, w_1_11, w_1_12, w_1_13, w_1_14])

set_option maxHeartbeats 4000000 in
set_option maxRecDepth 100000 in
theorem c_X4_bestJoker (l : Launch) (g : q_G) (a : Nat → Nat → Nat) (b : Nat → Nat) (V : q_CV) (x : Int32) (z : Int32) (h1_ : s_n (v_now V) ≤ 10) : q_PM l yX4_bestJoker wsX4_bestJoker { frames := 5, cells := 0, slots := 0, locals := 113 } [.ref (b 0), .int x, .int z] (q_B g (q_pqW g a b V)) (.int (bejR V x z)) := by
  refine q_pm (cc := cX4_bestJoker) (maxL := 4) (ret := (some .int)) (by decide) rfl (Nat.le_of_ble_eq_true rfl) ?_
  intro p e s m args below meth c ls hx hb hml hown hts hr hlk hB hl
  obtain ⟨hP, hK, hN⟩ := hB
  have fl_12 := hts (.fieldLink RX4 12 "PubQuizzes" "now" "LPubQuizzes$State;") (by decide +kernel)
  have hi_X4 : ∀ w ∈ u_ws RX4 TX4 5, w ∈ wsX4_bestJoker := by decide +kernel
  have hl : lv_has ls 4 [(0, .ref (b 0)), (1, .int x), (2, .int z)] := hl
  refine lv_aload_n hx hb dX4_bestJoker_0 rfl (lv_at hl 0 rfl) ?_
  refine va_get (D := g.1) (ci := 3) (v := .ref (a 0 0)) (C := RX4) (T := TX4) (N := 5) hx hb hts hi_X4 hown hK hP 0 rfl rfl 0 (by decide) fl_12 (fun _ h9 => h9) rfl dX4_bestJoker_1 ?_
  refine lv_iload_n hx hb dX4_bestJoker_4 rfl (lv_at hl 1 rfl) ?_
  refine q_V (As := [.int x]) (rest := []) ⟨hx, hb, hml, hown, hts⟩ (c_X3_isTeam l g (a 0) (v_now V) x ) (cwV 1 hts gX4_bestJoker_X3_isTeam rfl rfl rfl (by decide +kernel) ⟨Nat.le_of_ble_eq_true rfl, Nat.le_of_ble_eq_true rfl⟩) q_B_blind (va_recv hK (q_nowP (V := V) hP) (ci := 2) (q0 := 0) rfl rfl) (q_B_of (q_nowP (V := V) hP) hK hN) rfl hl.1 rfl (Nat.le_of_ble_eq_true rfl) dX4_bestJoker_5 (Nat.zero_le _) (Nat.zero_le _) ?_
  refine lv_if_ne (tgt := 13) hx hb dX4_bestJoker_8 (by decide) (fun c_8 => ?_) (fun c_8 => ?_)
  · skip
    have c_8 : (isTm (v_now V) x) = true := bI_ne c_8
    obtain ⟨t1, ht1, ht1x, rfl⟩ := isTm_of h1_ c_8
    have ct1 : tN (nI t1) = t1 := tN_n (by omega)
    refine lv_aload_n hx hb dX4_bestJoker_13 rfl (lv_at hl 0 rfl) ?_
    refine va_get (D := g.1) (ci := 3) (v := .ref (a 0 0)) (C := RX4) (T := TX4) (N := 5) hx hb hts hi_X4 hown hK hP 0 rfl rfl 0 (by decide) fl_12 (fun _ h9 => h9) rfl dX4_bestJoker_14 ?_
    refine lv_iload_n hx hb dX4_bestJoker_17 rfl (lv_at hl 1 rfl) ?_
    refine q_V (As := [.int (nI t1)]) (rest := []) ⟨hx, hb, hml, hown, hts⟩ (c_X3_bestRound l g (a 0) (v_now V) t1 (by omega)) (cwV 1 hts gX4_bestJoker_X3_bestRound rfl rfl rfl (by decide +kernel) ⟨Nat.le_of_ble_eq_true rfl, Nat.le_of_ble_eq_true rfl⟩) q_B_blind (va_recv hK (q_nowP (V := V) hP) (ci := 2) (q0 := 0) rfl rfl) (q_B_of (q_nowP (V := V) hP) hK hN) rfl hl.1 rfl (Nat.le_of_ble_eq_true rfl) dX4_bestJoker_18 (Nat.zero_le _) (Nat.zero_le _) ?_
    refine lv_istore_n (lv' := [(3, .int (nI (besS (v_now V) t1 8))), (0, .ref (b 0)), (1, .int (nI t1)), (2, .int z)]) hx hb dX4_bestJoker_21 rfl hl (by decide) rfl (fun ls hl => ?_)
    refine lv_iload_n hx hb dX4_bestJoker_22 rfl (lv_at hl 3 rfl) ?_
    by_cases w_23_0 : z = 0
    · skip
      have tx_23 : (z : Int32).toInt = 0 := by rw [w_23_0]; decide
      refine lv_lookup (tgt := 48) (off := 25) hx hb dX4_bestJoker_23 (by decide) (by rw [tx_23]; decide) (by decide) ?_
      refine lv_iload_n hx hb dX4_bestJoker_48 rfl (lv_at hl 0 rfl) ?_
      exact q_iret hx hb hr hlk dX4_bestJoker_49 (by simp [bejR, ct1, c_8, w_23_0])
    by_cases w_23_1 : z = 1
    · skip
      have tx_23 : (z : Int32).toInt = 1 := by rw [w_23_1]; decide
      refine lv_lookup (tgt := 50) (off := 27) hx hb dX4_bestJoker_23 (by decide) (by rw [tx_23]; decide) (by decide) ?_
      refine lv_aload_n hx hb dX4_bestJoker_50 rfl (lv_at hl 1 rfl) ?_
      refine va_get (D := g.1) (ci := 3) (v := .ref (a 0 0)) (C := RX4) (T := TX4) (N := 5) hx hb hts hi_X4 hown hK hP 0 rfl rfl 0 (by decide) fl_12 (fun _ h9 => h9) rfl dX4_bestJoker_51 ?_
      refine lv_iload_n hx hb dX4_bestJoker_54 rfl (lv_at hl 2 rfl) ?_
      refine lv_iload_n hx hb dX4_bestJoker_55 rfl (lv_at hl 0 rfl) ?_
      refine q_V (As := [.int (nI t1), .int (nI (besS (v_now V) t1 8))]) (rest := []) ⟨hx, hb, hml, hown, hts⟩ (c_X3_scoreWithJokerOn l g (a 0) (v_now V) t1 (besS (v_now V) t1 8) (by omega)) (cwV 2 hts gX4_bestJoker_X3_scoreWithJokerOn rfl rfl rfl (by decide +kernel) ⟨Nat.le_of_ble_eq_true rfl, Nat.le_of_ble_eq_true rfl⟩) q_B_blind (va_recv hK (q_nowP (V := V) hP) (ci := 2) (q0 := 0) rfl rfl) (q_B_of (q_nowP (V := V) hP) hK hN) rfl hl.1 rfl (Nat.le_of_ble_eq_true rfl) dX4_bestJoker_56 (Nat.zero_le _) (Nat.zero_le _) ?_
      refine lv_sipush (v := 1000) hx hb dX4_bestJoker_59 (by decide) ?_
      refine lv_iadd hx hb dX4_bestJoker_62 ?_
      exact q_iret hx hb hr hlk dX4_bestJoker_63 (by simp [bejR, ct1, c_8, w_23_0, w_23_1])
    have tn_23_0 : ¬ (z : Int32).toInt = 0 := fun q => w_23_0 (Int32.toInt_inj.mp (q.trans (by decide)))
    have tm_23_0 : ¬ 0 = (z : Int32).toInt := fun q => tn_23_0 q.symm
    have tn_23_1 : ¬ (z : Int32).toInt = 1 := fun q => w_23_1 (Int32.toInt_inj.mp (q.trans (by decide)))
    have tm_23_1 : ¬ 1 = (z : Int32).toInt := fun q => tn_23_1 q.symm
    refine lv_lookup (tgt := 64) (off := 41) hx hb dX4_bestJoker_23 (by decide) (by simp [Op.lookupswitch.offset, tn_23_0, tm_23_0, tn_23_1, tm_23_1]) (by decide) ?_
    refine lv_bipush (v := (-2)) hx hb dX4_bestJoker_64 (by decide) ?_
    exact q_iret hx hb hr hlk dX4_bestJoker_66 (by simp [bejR, ct1, c_8, w_23_0, w_23_1])
  · skip
    have c_8 : (isTm (v_now V) x) = false := bI_eq c_8
    refine lv_iconst (v := (-1)) hx hb dX4_bestJoker_11 (by decide) ?_
    exact q_iret hx hb hr hlk dX4_bestJoker_12 (by simp [bejR, c_8])

set_option maxHeartbeats 4000000 in
set_option maxRecDepth 100000 in
theorem c_X4_most (l : Launch) (g : q_G) (a : Nat → Nat → Nat) (b : Nat → Nat) (V : q_CV) (x : Int32) (h1_ : s_n (v_now V) ≤ 10) : q_PM l yX4_most wsX4_most { frames := 5, cells := 0, slots := 0, locals := 111 } [.ref (b 0), .int x] (q_B g (q_pqW g a b V)) (.int (mosR V x)) := by
  refine q_pm (cc := cX4_most) (maxL := 2) (ret := (some .int)) (by decide) rfl (Nat.le_of_ble_eq_true rfl) ?_
  intro p e s m args below meth c ls hx hb hml hown hts hr hlk hB hl
  obtain ⟨hP, hK, hN⟩ := hB
  have fl_12 := hts (.fieldLink RX4 12 "PubQuizzes" "now" "LPubQuizzes$State;") (by decide +kernel)
  have hi_X4 : ∀ w ∈ u_ws RX4 TX4 5, w ∈ wsX4_most := by decide +kernel
  have hl : lv_has ls 2 [(0, .ref (b 0)), (1, .int x)] := hl
  refine lv_aload_n hx hb dX4_most_0 rfl (lv_at hl 0 rfl) ?_
  refine va_get (D := g.1) (ci := 3) (v := .ref (a 0 0)) (C := RX4) (T := TX4) (N := 5) hx hb hts hi_X4 hown hK hP 0 rfl rfl 0 (by decide) fl_12 (fun _ h9 => h9) rfl dX4_most_1 ?_
  refine lv_iload_n hx hb dX4_most_4 rfl (lv_at hl 1 rfl) ?_
  refine q_V (As := [.int x]) (rest := []) ⟨hx, hb, hml, hown, hts⟩ (c_X3_isTeam l g (a 0) (v_now V) x ) (cwV 1 hts gX4_most_X3_isTeam rfl rfl rfl (by decide +kernel) ⟨Nat.le_of_ble_eq_true rfl, Nat.le_of_ble_eq_true rfl⟩) q_B_blind (va_recv hK (q_nowP (V := V) hP) (ci := 2) (q0 := 0) rfl rfl) (q_B_of (q_nowP (V := V) hP) hK hN) rfl hl.1 rfl (Nat.le_of_ble_eq_true rfl) dX4_most_5 (Nat.zero_le _) (Nat.zero_le _) ?_
  refine lv_if_eq (tgt := 26) hx hb dX4_most_8 (by decide) (fun c_8 => ?_) (fun c_8 => ?_)
  · skip
    have c_8 : (isTm (v_now V) x) = false := bI_eq c_8
    refine lv_iconst (v := (-1)) hx hb dX4_most_26 (by decide) ?_
    exact q_iret hx hb hr hlk dX4_most_27 (by simp [mosR, c_8])
  · skip
    have c_8 : (isTm (v_now V) x) = true := bI_ne c_8
    obtain ⟨t1, ht1, ht1x, rfl⟩ := isTm_of h1_ c_8
    have ct1 : tN (nI t1) = t1 := tN_n (by omega)
    refine lv_aload_n hx hb dX4_most_11 rfl (lv_at hl 0 rfl) ?_
    refine va_get (D := g.1) (ci := 3) (v := .ref (a 0 0)) (C := RX4) (T := TX4) (N := 5) hx hb hts hi_X4 hown hK hP 0 rfl rfl 0 (by decide) fl_12 (fun _ h9 => h9) rfl dX4_most_12 ?_
    refine lv_iload_n hx hb dX4_most_15 rfl (lv_at hl 1 rfl) ?_
    refine q_V (As := [.int (nI t1)]) (rest := []) ⟨hx, hb, hml, hown, hts⟩ (c_X3_greatestScore l g (a 0) (v_now V) t1 (by omega)) (cwV 1 hts gX4_most_X3_greatestScore rfl rfl rfl (by decide +kernel) ⟨Nat.le_of_ble_eq_true rfl, Nat.le_of_ble_eq_true rfl⟩) q_B_blind (va_recv hK (q_nowP (V := V) hP) (ci := 2) (q0 := 0) rfl rfl) (q_B_of (q_nowP (V := V) hP) hK hN) rfl hl.1 rfl (Nat.le_of_ble_eq_true rfl) dX4_most_16 (Nat.zero_le _) (Nat.zero_le _) ?_
    refine lv_sipush (v := 1000) hx hb dX4_most_19 (by decide) ?_
    refine lv_iadd hx hb dX4_most_22 ?_
    refine lv_goto (tgt := 27) hx hb dX4_most_23 (by decide) ?_
    exact q_iret hx hb hr hlk dX4_most_27 (by simp [mosR, ct1, c_8])

set_option maxHeartbeats 4000000 in
set_option maxRecDepth 100000 in
theorem c_X4_canWin (l : Launch) (g : q_G) (a : Nat → Nat → Nat) (b : Nat → Nat) (V : q_CV) (h1_ : s_n (v_now V) ≤ 10) : q_PM l yX4_canWin wsX4_canWin { frames := 6, cells := 0, slots := 0, locals := 134 } [.ref (b 0)] (q_B g (q_pqW g a b V)) (.int (canR V)) := by
  refine q_pm (cc := cX4_canWin) (maxL := 3) (ret := (some .int)) (by decide) rfl (Nat.le_of_ble_eq_true rfl) ?_
  intro p e s m args below meth c ls hx hb hml hown hts hr hlk hB hl
  obtain ⟨hP, hK, hN⟩ := hB
  have fl_12 := hts (.fieldLink RX4 12 "PubQuizzes" "now" "LPubQuizzes$State;") (by decide +kernel)
  have fl_52 := hts (.fieldLink RX4 52 "PubQuizzes$State" "teams" "I") (by decide +kernel)
  have hi_X4 : ∀ w ∈ u_ws RX4 TX4 5, w ∈ wsX4_canWin := by decide +kernel
  have hi_X3 : ∀ w ∈ u_ws RX3 TX3 12, w ∈ wsX4_canWin := by decide +kernel
  have hl : lv_has ls 3 [(0, .ref (b 0))] := hl
  refine lv_iconst (v := 0) hx hb dX4_canWin_0 (by decide) ?_
  refine lv_istore_n (lv' := [(1, .int 0), (0, .ref (b 0))]) hx hb dX4_canWin_1 rfl hl (by decide) rfl (fun ls hl => ?_)
  refine lv_iconst (v := 0) hx hb dX4_canWin_2 (by decide) ?_
  refine lv_istore_n (lv' := [(2, .int 0), (1, .int 0), (0, .ref (b 0))]) hx hb dX4_canWin_3 rfl hl (by decide) rfl (fun ls hl => ?_)
  have L_4 : ∀ (fu i4 : Nat) (y1_4 : Int32), y1_4 = q_or (croS (v_now V)) i4 → i4 ≤ s_n (v_now V) → s_n (v_now V) < i4 + fu → ∀ ls : Array Slot, lv_has ls 3 [(2, .int (nI i4)), (1, .int y1_4), (0, .ref (b 0))] → W p l e { frames := 6, cells := 0, slots := 0, locals := 134 } s m args below meth c s.heap [] 0 0 (MQ below (k2_QcV (.int (canR V))) args s 0 0 (fun _ => False)) (F0 m 4 ls []) := by
    intro fu
    induction fu with
    | zero => intro i4 y1_4 ey1_4 hi_i4 hn_i4; exact absurd hn_i4 (by omega)
    | succ fu ih_i4 =>
      intro i4 y1_4 ey1_4 hi_i4 hn_i4 ls hl
      subst ey1_4
      refine lv_iload_n hx hb dX4_canWin_4 rfl (lv_at hl 0 rfl) ?_
      refine lv_aload_n hx hb dX4_canWin_5 rfl (lv_at hl 2 rfl) ?_
      refine va_get (D := g.1) (ci := 3) (v := .ref (a 0 0)) (C := RX4) (T := TX4) (N := 5) hx hb hts hi_X4 hown hK hP 0 rfl rfl 0 (by decide) fl_12 (fun _ h9 => h9) rfl dX4_canWin_6 ?_
      refine va_get (D := g.1) (ci := 2) (v := .int (nI (s_n (v_now V)))) (C := RX3) (T := TX3) (N := 12) hx hb hts hi_X3 hown hK hP 7 rfl rfl 10 (by decide) fl_52 (fun _ h9 => h9) rfl dX4_canWin_9 ?_
      refine lv_icmp_ge (tgt := 42) hx hb dX4_canWin_12 (by decide) (fun c_12 => ?_) (fun c_12 => ?_)
      · skip
        have e_12 : i4 = s_n (v_now V) := q_ge_T (by omega) hi_i4 c_12
        subst e_12
        refine lv_iload_n hx hb dX4_canWin_42 rfl (lv_at hl 1 rfl) ?_
        exact q_iret hx hb hr hlk dX4_canWin_43 (rfl)
      · skip
        have lt_i4 : i4 < s_n (v_now V) := q_ge_F (by omega) hi_i4 c_12
        refine lv_iload_n hx hb dX4_canWin_15 rfl (lv_at hl 1 rfl) ?_
        refine lv_aload_n hx hb dX4_canWin_16 rfl (lv_at hl 2 rfl) ?_
        refine va_get (D := g.1) (ci := 3) (v := .ref (a 0 0)) (C := RX4) (T := TX4) (N := 5) hx hb hts hi_X4 hown hK hP 0 rfl rfl 0 (by decide) fl_12 (fun _ h9 => h9) rfl dX4_canWin_17 ?_
        refine lv_iload_n hx hb dX4_canWin_20 rfl (lv_at hl 0 rfl) ?_
        refine q_V (As := [.int (nI i4)]) (rest := [.int (q_or (croS (v_now V)) i4)]) ⟨hx, hb, hml, hown, hts⟩ (c_X3_canReachOthers l g (a 0) (v_now V) i4 (by omega) (by omega)) (cwV 1 hts gX4_canWin_X3_canReachOthers rfl rfl rfl (by decide +kernel) ⟨Nat.le_of_ble_eq_true rfl, Nat.le_of_ble_eq_true rfl⟩) q_B_blind (va_recv hK (q_nowP (V := V) hP) (ci := 2) (q0 := 0) rfl rfl) (q_B_of (q_nowP (V := V) hP) hK hN) rfl hl.1 rfl (Nat.le_of_ble_eq_true rfl) dX4_canWin_21 (Nat.zero_le _) (Nat.zero_le _) ?_
        refine lv_if_eq (tgt := 33) hx hb dX4_canWin_24 (by decide) (fun c_24 => ?_) (fun c_24 => ?_)
        · skip
          have c_24 : (croS (v_now V) i4) = false := bI_eq c_24
          refine lv_iconst (v := 0) hx hb dX4_canWin_33 (by decide) ?_
          refine lv_ior hx hb dX4_canWin_34 ?_
          refine lv_istore_n (lv' := [(1, .int ((q_or (croS (v_now V)) i4) ||| 0)), (2, .int (nI i4)), (0, .ref (b 0))]) hx hb dX4_canWin_35 rfl hl (by decide) rfl (fun ls hl => ?_)
          refine lv_iinc (v := nI (i4 + 1)) (lv' := [(2, .int (nI (i4 + 1))), (1, .int ((q_or (croS (v_now V)) i4) ||| 0)), (0, .ref (b 0))]) hx hb dX4_canWin_36 hl (k := 1) rfl (nI_1 _) (by decide) rfl (fun ls hl => ?_)
          refine lv_goto (tgt := 4) hx hb dX4_canWin_39 (by decide) ?_
          exact ih_i4 (i4 + 1) ((q_or (croS (v_now V)) i4) ||| 0) (by first | (simp [q_acc, q_or, q_cnt, q_any, nI_1, c_24]; done) | rfl) lt_i4 (by omega) ls (lv_sub hl [0, 1, 2] rfl)
        · skip
          have c_24 : (croS (v_now V) i4) = true := bI_ne c_24
          refine lv_iconst (v := 1) hx hb dX4_canWin_27 (by decide) ?_
          refine lv_iload_n hx hb dX4_canWin_28 rfl (lv_at hl 0 rfl) ?_
          refine lv_ishl hx hb dX4_canWin_29 ?_
          refine lv_goto (tgt := 34) hx hb dX4_canWin_30 (by decide) ?_
          refine lv_ior hx hb dX4_canWin_34 ?_
          refine lv_istore_n (lv' := [(1, .int ((q_or (croS (v_now V)) i4) ||| (1 <<< ((nI i4) &&& 31)))), (2, .int (nI i4)), (0, .ref (b 0))]) hx hb dX4_canWin_35 rfl hl (by decide) rfl (fun ls hl => ?_)
          refine lv_iinc (v := nI (i4 + 1)) (lv' := [(2, .int (nI (i4 + 1))), (1, .int ((q_or (croS (v_now V)) i4) ||| (1 <<< ((nI i4) &&& 31)))), (0, .ref (b 0))]) hx hb dX4_canWin_36 hl (k := 1) rfl (nI_1 _) (by decide) rfl (fun ls hl => ?_)
          refine lv_goto (tgt := 4) hx hb dX4_canWin_39 (by decide) ?_
          exact ih_i4 (i4 + 1) ((q_or (croS (v_now V)) i4) ||| (1 <<< ((nI i4) &&& 31))) (by first | (simp [q_acc, q_or, q_cnt, q_any, nI_1, c_24]; done) | rfl) lt_i4 (by omega) ls (lv_sub hl [0, 1, 2] rfl)
  exact L_4 (s_n (v_now V) + 1) 0 0 (rfl) (Nat.zero_le _) (by omega) ls (lv_sub hl [0, 1, 2] rfl)

set_option maxHeartbeats 4000000 in
set_option maxRecDepth 100000 in
theorem c_X4_wrongMarks (l : Launch) (g : q_G) (a : Nat → Nat → Nat) (b : Nat → Nat) (V : q_CV) (h1_ : s_n (v_now V) ≤ 10) : q_PM l yX4_wrongMarks wsX4_wrongMarks { frames := 4, cells := 0, slots := 0, locals := 87 } [.ref (b 0)] (q_B g (q_pqW g a b V)) (.int (wroR V)) := by
  refine q_pm (cc := cX4_wrongMarks) (maxL := 4) (ret := (some .int)) (by decide) rfl (Nat.le_of_ble_eq_true rfl) ?_
  intro p e s m args below meth c ls hx hb hml hown hts hr hlk hB hl
  obtain ⟨hP, hK, hN⟩ := hB
  have fl_12 := hts (.fieldLink RX4 12 "PubQuizzes" "now" "LPubQuizzes$State;") (by decide +kernel)
  have fl_52 := hts (.fieldLink RX4 52 "PubQuizzes$State" "teams" "I") (by decide +kernel)
  have hi_X4 : ∀ w ∈ u_ws RX4 TX4 5, w ∈ wsX4_wrongMarks := by decide +kernel
  have hi_X3 : ∀ w ∈ u_ws RX3 TX3 12, w ∈ wsX4_wrongMarks := by decide +kernel
  have hl : lv_has ls 4 [(0, .ref (b 0))] := hl
  refine lv_iconst (v := 0) hx hb dX4_wrongMarks_0 (by decide) ?_
  refine lv_istore_n (lv' := [(1, .int 0), (0, .ref (b 0))]) hx hb dX4_wrongMarks_1 rfl hl (by decide) rfl (fun ls hl => ?_)
  refine lv_iconst (v := 0) hx hb dX4_wrongMarks_2 (by decide) ?_
  refine lv_istore_n (lv' := [(2, .int 0), (1, .int 0), (0, .ref (b 0))]) hx hb dX4_wrongMarks_3 rfl hl (by decide) rfl (fun ls hl => ?_)
  have L_4 : ∀ (fu i4 : Nat) (y1_4 : Int32), y1_4 = nI (wroA (v_now V) i4) → i4 ≤ s_n (v_now V) → s_n (v_now V) < i4 + fu → ∀ ls : Array Slot, lv_has ls 4 [(2, .int (nI i4)), (1, .int y1_4), (0, .ref (b 0))] → W p l e { frames := 4, cells := 0, slots := 0, locals := 87 } s m args below meth c s.heap [] 0 0 (MQ below (k2_QcV (.int (wroR V))) args s 0 0 (fun _ => False)) (F0 m 4 ls []) := by
    intro fu
    induction fu with
    | zero => intro i4 y1_4 ey1_4 hi_i4 hn_i4; exact absurd hn_i4 (by omega)
    | succ fu ih_i4 =>
      intro i4 y1_4 ey1_4 hi_i4 hn_i4 ls hl
      subst ey1_4
      refine lv_iload_n hx hb dX4_wrongMarks_4 rfl (lv_at hl 0 rfl) ?_
      refine lv_aload_n hx hb dX4_wrongMarks_5 rfl (lv_at hl 2 rfl) ?_
      refine va_get (D := g.1) (ci := 3) (v := .ref (a 0 0)) (C := RX4) (T := TX4) (N := 5) hx hb hts hi_X4 hown hK hP 0 rfl rfl 0 (by decide) fl_12 (fun _ h9 => h9) rfl dX4_wrongMarks_6 ?_
      refine va_get (D := g.1) (ci := 2) (v := .int (nI (s_n (v_now V)))) (C := RX3) (T := TX3) (N := 12) hx hb hts hi_X3 hown hK hP 7 rfl rfl 10 (by decide) fl_52 (fun _ h9 => h9) rfl dX4_wrongMarks_9 ?_
      refine lv_icmp_ge (tgt := 50) hx hb dX4_wrongMarks_12 (by decide) (fun c_12 => ?_) (fun c_12 => ?_)
      · skip
        have e_12 : i4 = s_n (v_now V) := q_ge_T (by omega) hi_i4 c_12
        subst e_12
        refine lv_iload_n hx hb dX4_wrongMarks_50 rfl (lv_at hl 1 rfl) ?_
        exact q_iret hx hb hr hlk dX4_wrongMarks_51 (rfl)
      · skip
        have lt_i4 : i4 < s_n (v_now V) := q_ge_F (by omega) hi_i4 c_12
        refine lv_iconst (v := 0) hx hb dX4_wrongMarks_15 (by decide) ?_
        refine lv_istore_n (lv' := [(3, .int 0), (2, .int (nI i4)), (1, .int (nI (wroA (v_now V) i4))), (0, .ref (b 0))]) hx hb dX4_wrongMarks_16 rfl hl (by decide) rfl (fun ls hl => ?_)
        have L_17 : ∀ (fu i17 : Nat) (y1_17 : Int32), y1_17 = nI (wroA (v_now V) i4 + q_cnt (wroS (v_now V) i4) i17) → i17 ≤ 8 → 8 < i17 + fu → ∀ ls : Array Slot, lv_has ls 4 [(3, .int (nI i17)), (2, .int (nI i4)), (1, .int y1_17), (0, .ref (b 0))] → W p l e { frames := 4, cells := 0, slots := 0, locals := 87 } s m args below meth c s.heap [] 0 0 (MQ below (k2_QcV (.int (wroR V))) args s 0 0 (fun _ => False)) (F0 m 17 ls []) := by
          intro fu
          induction fu with
          | zero => intro i17 y1_17 ey1_17 hi_i17 hn_i17; exact absurd hn_i17 (by omega)
          | succ fu ih_i17 =>
            intro i17 y1_17 ey1_17 hi_i17 hn_i17 ls hl
            subst ey1_17
            refine lv_iload_n hx hb dX4_wrongMarks_17 rfl (lv_at hl 0 rfl) ?_
            refine lv_bipush (v := 8) hx hb dX4_wrongMarks_18 (by decide) ?_
            refine lv_icmp_ge (tgt := 44) hx hb dX4_wrongMarks_20 (by decide) (fun c_20 => ?_) (fun c_20 => ?_)
            · skip
              have e_20 : i17 = 8 := q_ge_T (by omega) hi_i17 c_20
              subst e_20
              refine lv_iinc (v := nI (i4 + 1)) (lv' := [(2, .int (nI (i4 + 1))), (3, .int (nI 8)), (1, .int (nI (wroA (v_now V) i4 + q_cnt (wroS (v_now V) i4) 8))), (0, .ref (b 0))]) hx hb dX4_wrongMarks_44 hl (k := 1) rfl (nI_1 _) (by decide) rfl (fun ls hl => ?_)
              refine lv_goto (tgt := 4) hx hb dX4_wrongMarks_47 (by decide) ?_
              exact ih_i4 (i4 + 1) (nI (wroA (v_now V) i4 + q_cnt (wroS (v_now V) i4) 8)) (by first | (simp [q_acc, q_or, q_cnt, q_any, nI_1, bI_t]; done) | rfl) lt_i4 (by omega) ls (lv_sub hl [0, 2, 3] rfl)
            · skip
              have lt_i17 : i17 < 8 := q_ge_F (by omega) hi_i17 c_20
              refine lv_aload_n hx hb dX4_wrongMarks_23 rfl (lv_at hl 3 rfl) ?_
              refine va_get (D := g.1) (ci := 3) (v := .ref (a 0 0)) (C := RX4) (T := TX4) (N := 5) hx hb hts hi_X4 hown hK hP 0 rfl rfl 0 (by decide) fl_12 (fun _ h9 => h9) rfl dX4_wrongMarks_24 ?_
              refine lv_iload_n hx hb dX4_wrongMarks_27 rfl (lv_at hl 1 rfl) ?_
              refine lv_iload_n hx hb dX4_wrongMarks_28 rfl (lv_at hl 0 rfl) ?_
              refine q_V (As := [.int (nI i4), .int (nI i17)]) (rest := []) ⟨hx, hb, hml, hown, hts⟩ (c_X3_isWrong l g (a 0) (v_now V) i4 i17 (by omega) (by omega)) (cwV 2 hts gX4_wrongMarks_X3_isWrong rfl rfl rfl (by decide +kernel) ⟨Nat.le_of_ble_eq_true rfl, Nat.le_of_ble_eq_true rfl⟩) q_B_blind (va_recv hK (q_nowP (V := V) hP) (ci := 2) (q0 := 0) rfl rfl) (q_B_of (q_nowP (V := V) hP) hK hN) rfl hl.1 rfl (Nat.le_of_ble_eq_true rfl) dX4_wrongMarks_29 (Nat.zero_le _) (Nat.zero_le _) ?_
              refine lv_if_eq (tgt := 38) hx hb dX4_wrongMarks_32 (by decide) (fun c_32 => ?_) (fun c_32 => ?_)
              · skip
                have c_32 : (wroS (v_now V) i4 i17) = false := bI_eq c_32
                refine lv_iinc (v := nI (i17 + 1)) (lv' := [(3, .int (nI (i17 + 1))), (2, .int (nI i4)), (1, .int (nI (wroA (v_now V) i4 + q_cnt (wroS (v_now V) i4) i17))), (0, .ref (b 0))]) hx hb dX4_wrongMarks_38 hl (k := 0) rfl (nI_1 _) (by decide) rfl (fun ls hl => ?_)
                refine lv_goto (tgt := 17) hx hb dX4_wrongMarks_41 (by decide) ?_
                exact ih_i17 (i17 + 1) (nI (wroA (v_now V) i4 + q_cnt (wroS (v_now V) i4) i17)) (by simp [wroA, q_cnt, nI_1, Nat.add_assoc, c_32]) lt_i17 (by omega) ls (lv_sub hl [0, 1, 2, 3] rfl)
              · skip
                have c_32 : (wroS (v_now V) i4 i17) = true := bI_ne c_32
                refine lv_iinc (v := nI ((wroA (v_now V) i4 + q_cnt (wroS (v_now V) i4) i17) + 1)) (lv' := [(1, .int (nI ((wroA (v_now V) i4 + q_cnt (wroS (v_now V) i4) i17) + 1))), (3, .int (nI i17)), (2, .int (nI i4)), (0, .ref (b 0))]) hx hb dX4_wrongMarks_35 hl (k := 2) rfl (nI_1 _) (by decide) rfl (fun ls hl => ?_)
                refine lv_iinc (v := nI (i17 + 1)) (lv' := [(3, .int (nI (i17 + 1))), (1, .int (nI ((wroA (v_now V) i4 + q_cnt (wroS (v_now V) i4) i17) + 1))), (2, .int (nI i4)), (0, .ref (b 0))]) hx hb dX4_wrongMarks_38 hl (k := 1) rfl (nI_1 _) (by decide) rfl (fun ls hl => ?_)
                refine lv_goto (tgt := 17) hx hb dX4_wrongMarks_41 (by decide) ?_
                exact ih_i17 (i17 + 1) (nI ((wroA (v_now V) i4 + q_cnt (wroS (v_now V) i4) i17) + 1)) (by simp [wroA, q_cnt, nI_1, Nat.add_assoc, c_32]) lt_i17 (by omega) ls (lv_sub hl [0, 2, 1, 3] rfl)
        exact L_17 (8 + 1) 0 (nI (wroA (v_now V) i4)) (rfl) (Nat.zero_le _) (by omega) ls (lv_sub hl [0, 1, 2, 3] rfl)
  exact L_4 (s_n (v_now V) + 1) 0 0 (rfl) (Nat.zero_le _) (by omega) ls (lv_sub hl [0, 1, 2] rfl)

set_option maxHeartbeats 4000000 in
set_option maxRecDepth 100000 in
theorem c_X4_fault (l : Launch) (g : q_G) (a : Nat → Nat → Nat) (b : Nat → Nat) (V : q_CV) (h1_ : v_pl V ≤ 80) : q_PM l yX4_fault wsX4_fault { frames := 3, cells := 0, slots := 0, locals := 61 } [.ref (b 0)] (q_B g (q_pqW g a b V)) (.int (fauI (v_pc V) (v_pl V))) := by
  refine q_pm (cc := cX4_fault) (maxL := 1) (ret := (some .int)) (by decide) rfl (Nat.le_of_ble_eq_true rfl) ?_
  intro p e s m args below meth c ls hx hb hml hown hts hr hlk hB hl
  obtain ⟨hP, hK, hN⟩ := hB
  have fl_26 := hts (.fieldLink RX4 26 "PubQuizzes" "pad" "LPubQuizzes$Pad;") (by decide +kernel)
  have hi_X4 : ∀ w ∈ u_ws RX4 TX4 5, w ∈ wsX4_fault := by decide +kernel
  have hl : lv_has ls 1 [(0, .ref (b 0))] := hl
  refine lv_aload_n hx hb dX4_fault_0 rfl (lv_at hl 0 rfl) ?_
  refine va_get (D := g.1) (ci := 3) (v := .ref (b 1)) (C := RX4) (T := TX4) (N := 5) hx hb hts hi_X4 hown hK hP 0 rfl rfl 2 (by decide) fl_26 (fun _ h9 => h9) rfl dX4_fault_1 ?_
  refine q_V (As := []) (rest := []) ⟨hx, hb, hml, hown, hts⟩ (c_X1_faultIndex l g (b 1) (b 2) (v_pc V) (v_pl V)  (by omega)) (cwV 0 hts gX4_fault_X1_faultIndex rfl rfl rfl (by decide +kernel) ⟨Nat.le_of_ble_eq_true rfl, Nat.le_of_ble_eq_true rfl⟩) q_B_blind (va_recv hK (q_padP (V := V) hP) (ci := 1) (q0 := 0) rfl rfl) (q_B_of (q_padP (V := V) hP) hK hN) rfl hl.1 rfl (Nat.le_of_ble_eq_true rfl) dX4_fault_4 (Nat.zero_le _) (Nat.zero_le _) ?_
  exact q_iret hx hb hr hlk dX4_fault_7 (rfl)
