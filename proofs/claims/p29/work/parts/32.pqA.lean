set_option maxHeartbeats 4000000 in
set_option maxRecDepth 100000 in
theorem c_X4_isRound (l : Launch) (x : Int32) : q_PM l yX4_isRound wsX4_isRound { frames := 0, cells := 0, slots := 0, locals := 0 } [.int x] (fun _ => True) (.int (bI (isRd x))) := by
  refine q_pm (cc := cX4_isRound) (maxL := 1) (ret := (some .boolean)) (by decide) rfl (Nat.le_of_ble_eq_true rfl) ?_
  intro p e s m args below meth c ls hx hb hml hown hts hr hlk _ hl
  have hl : lv_has ls 1 [(0, .int x)] := hl
  refine lv_iload_n hx hb dX4_isRound_0 rfl (lv_at hl 0 rfl) ?_
  refine lv_if_lt (tgt := 14) hx hb dX4_isRound_1 (by decide) (fun c_1 => ?_) (fun c_1 => ?_)
  · skip
    refine lv_iconst (v := 0) hx hb dX4_isRound_14 (by decide) ?_
    exact q_zret hx hb hr hlk dX4_isRound_15 (by simp [isRd, bI, c_1])
  · skip
    refine lv_iload_n hx hb dX4_isRound_4 rfl (lv_at hl 0 rfl) ?_
    refine lv_bipush (v := 8) hx hb dX4_isRound_5 (by decide) ?_
    refine lv_icmp_ge (tgt := 14) hx hb dX4_isRound_7 (by decide) (fun c_7 => ?_) (fun c_7 => ?_)
    · skip
      refine lv_iconst (v := 0) hx hb dX4_isRound_14 (by decide) ?_
      exact q_zret hx hb hr hlk dX4_isRound_15 (by simp [isRd, bI, c_1, c_7])
    · skip
      refine lv_iconst (v := 1) hx hb dX4_isRound_10 (by decide) ?_
      refine lv_goto (tgt := 15) hx hb dX4_isRound_11 (by decide) ?_
      exact q_zret hx hb hr hlk dX4_isRound_15 (by simp [isRd, bI, c_1, c_7])

set_option maxHeartbeats 4000000 in
set_option maxRecDepth 100000 in
theorem c_X4_isSlot (l : Launch) (x : Int32) : q_PM l yX4_isSlot wsX4_isSlot { frames := 0, cells := 0, slots := 0, locals := 0 } [.int x] (fun _ => True) (.int (bI (isSl x))) := by
  refine q_pm (cc := cX4_isSlot) (maxL := 1) (ret := (some .boolean)) (by decide) rfl (Nat.le_of_ble_eq_true rfl) ?_
  intro p e s m args below meth c ls hx hb hml hown hts hr hlk _ hl
  have hl : lv_has ls 1 [(0, .int x)] := hl
  refine lv_iload_n hx hb dX4_isSlot_0 rfl (lv_at hl 0 rfl) ?_
  refine lv_if_lt (tgt := 13) hx hb dX4_isSlot_1 (by decide) (fun c_1 => ?_) (fun c_1 => ?_)
  · skip
    refine lv_iconst (v := 0) hx hb dX4_isSlot_13 (by decide) ?_
    exact q_zret hx hb hr hlk dX4_isSlot_14 (by simp [isSl, bI, c_1])
  · skip
    refine lv_iload_n hx hb dX4_isSlot_4 rfl (lv_at hl 0 rfl) ?_
    refine lv_iconst (v := 2) hx hb dX4_isSlot_5 (by decide) ?_
    refine lv_icmp_ge (tgt := 13) hx hb dX4_isSlot_6 (by decide) (fun c_6 => ?_) (fun c_6 => ?_)
    · skip
      refine lv_iconst (v := 0) hx hb dX4_isSlot_13 (by decide) ?_
      exact q_zret hx hb hr hlk dX4_isSlot_14 (by simp [isSl, bI, c_1, c_6])
    · skip
      refine lv_iconst (v := 1) hx hb dX4_isSlot_9 (by decide) ?_
      refine lv_goto (tgt := 14) hx hb dX4_isSlot_10 (by decide) ?_
      exact q_zret hx hb hr hlk dX4_isSlot_14 (by simp [isSl, bI, c_1, c_6])

set_option maxHeartbeats 2000000 in
set_option maxRecDepth 100000 in
theorem c_X4_team (l : Launch) (g : q_G) (a : Nat → Nat → Nat) (b : Nat → Nat) (V : q_CV) (hI : q_inj a b) (h1_ : s_n (v_now V) ≤ 10) (h2_ : v_nxt V < 6) (h3_ : v_hl V ≤ 6) : Met l yX4_team wsX4_team { frames := 3, cells := 0, slots := 0, locals := 82 } (va_Pc [.ref (b 0)] (q_B g (q_pqW g a b V))) (q_QM g (q_adr a b) (q_pqW g a b (teaV V)) (some (.int (teaR V)))) 0 0 (q_adr a b) := by
  refine q_mm (cc := cX4_team) (maxL := 2) (ret := (some .int)) (by decide) rfl (Nat.le_of_ble_eq_true rfl) ?_
  intro p e s m args below meth c ls hx hb hml hown hts hr hlk hnm hB hag hl
  obtain ⟨hP, hK, hN⟩ := hB
  have hS : va_S (q_adr a b) s.heap s.heap [] := va_S.rf
  have hP : va_P g.1 vwCl (q_pqW g a b V) s.heap := hP
  have hD : va_D (q_adr a b) (q_pqW g a b V) := q_D hI (fun _ h => h)
  have fl_12 := hts (.fieldLink RX4 12 "PubQuizzes" "now" "LPubQuizzes$State;") (by decide +kernel)
  have fl_19 := hts (.fieldLink RX4 19 "PubQuizzes" "history" "LPubQuizzes$History;") (by decide +kernel)
  have fl_49 := hts (.fieldLink RX4 49 "PubQuizzes$State" "settings" "[I") (by decide +kernel)
  have fl_52 := hts (.fieldLink RX4 52 "PubQuizzes$State" "teams" "I") (by decide +kernel)
  have fl_60 := hts (.fieldLink RX4 60 "PubQuizzes$State" "paid" "[I") (by decide +kernel)
  have hi_X4 : ∀ w ∈ u_ws RX4 TX4 5, w ∈ wsX4_team := by decide +kernel
  have hi_X3 : ∀ w ∈ u_ws RX3 TX3 12, w ∈ wsX4_team := by decide +kernel
  have hl : lv_has ls 2 [(0, .ref (b 0))] := hl
  refine lv_aload_n hx hb dX4_team_0 rfl (lv_at hl 0 rfl) ?_
  refine va_get (D := g.1) (ci := 3) (v := .ref (a 0 0)) (C := RX4) (T := TX4) (N := 5) hx hb hts hi_X4 hown hK hP 0 rfl rfl 0 (by decide) fl_12 (fun _ h9 => h9) rfl dX4_team_1 ?_
  refine va_get (D := g.1) (ci := 2) (v := .int (nI (s_n (v_now V)))) (C := RX3) (T := TX3) (N := 12) hx hb hts hi_X3 hown hK hP 7 rfl rfl 10 (by decide) fl_52 (fun _ h9 => h9) rfl dX4_team_4 ?_
  refine lv_istore_n (lv' := [(1, .int (nI (s_n (v_now V)))), (0, .ref (b 0))]) hx hb dX4_team_7 rfl hl (by decide) rfl (fun ls hl => ?_)
  refine lv_iload_n hx hb dX4_team_8 rfl (lv_at hl 0 rfl) ?_
  refine lv_if_lt (tgt := 18) hx hb dX4_team_9 (by decide) (fun c_9 => ?_) (fun c_9 => ?_)
  · skip
    exact absurd c_9 (nI_pos (by omega))
  · skip
    refine lv_iload_n hx hb dX4_team_12 rfl (lv_at hl 0 rfl) ?_
    refine lv_bipush (v := 10) hx hb dX4_team_13 (by decide) ?_
    refine lv_icmp_lt (tgt := 21) hx hb dX4_team_15 (by decide) (fun c_15 => ?_) (fun c_15 => ?_)
    · skip
      have c_15 : s_n (v_now V) < 10 := (nI_ltI (b := 10) (by omega) (by decide)).mp c_15
      refine lv_aload_n hx hb dX4_team_21 rfl (lv_at hl 1 rfl) ?_
      refine va_get (D := g.1) (ci := 3) (v := .ref (a 0 0)) (C := RX4) (T := TX4) (N := 5) hx hb hts hi_X4 hown hK hP 0 rfl rfl 0 (by decide) fl_12 (fun _ h9 => h9) rfl dX4_team_22 ?_
      refine q_V (As := []) (rest := []) ⟨hx, hb, hml, hown, hts⟩ (c_X3_openRounds l g (a 0) (v_now V)  ) (cwV 0 hts gX4_team_X3_openRounds rfl rfl rfl (by decide +kernel) ⟨Nat.le_of_ble_eq_true rfl, Nat.le_of_ble_eq_true rfl⟩) q_B_blind (va_recv hK (q_nowP (V := V) hP) (ci := 2) (q0 := 0) rfl rfl) (q_B_of (q_nowP (V := V) hP) hK hN) rfl hl.1 rfl (Nat.le_of_ble_eq_true rfl) dX4_team_25 (Nat.zero_le _) (Nat.zero_le _) ?_
      refine lv_sipush (v := 255) hx hb dX4_team_28 (by decide) ?_
      refine lv_icmp_eq (tgt := 37) hx hb dX4_team_31 (by decide) (fun c_31 => ?_) (fun c_31 => ?_)
      · skip
        refine lv_aload_n hx hb dX4_team_37 rfl (lv_at hl 1 rfl) ?_
        refine va_get (D := g.1) (ci := 3) (v := .ref (b 3)) (C := RX4) (T := TX4) (N := 5) hx hb hts hi_X4 hown hK hP 0 rfl rfl 1 (by decide) fl_19 (fun _ h9 => h9) rfl dX4_team_38 ?_
        refine lv_aload_n hx hb dX4_team_41 rfl (lv_at hl 1 rfl) ?_
        refine va_get (D := g.1) (ci := 3) (v := .ref (a 0 0)) (C := RX4) (T := TX4) (N := 5) hx hb hts hi_X4 hown hK hP 0 rfl rfl 0 (by decide) fl_12 (fun _ h9 => h9) rfl dX4_team_42 ?_
        refine q_VM (As := [.ref (a 0 0)]) (rest := []) (st2 := []) ⟨hx, hb, hml, hown, hts⟩ (c_X0_record l g a b V hI  (by first | omega | assumption) (by first | omega | assumption)) (cwV 1 hts gX4_team_X0_record rfl rfl rfl (by decide +kernel) ⟨Nat.le_of_ble_eq_true rfl, Nat.le_of_ble_eq_true rfl⟩) q_B_blind (va_recv hK hP (ci := 0) (q0 := 3) rfl rfl) (q_B_of hP hK hN) rfl hl.1 rfl (Nat.le_of_ble_eq_true rfl) dX4_team_45 (Nat.zero_le _) (Nat.zero_le _) hS (fun _ h => h) rfl rfl rfl (fun H locs hP _ hS _ => ?_)
        have hP : va_P g.1 vwCl (q_pqW g a b (v_rec V)) H := hP
        have hD : va_D (q_adr a b) (q_pqW g a b (v_rec V)) := q_D hI (fun _ h => h)
        refine lv_aload_n hx hb dX4_team_48 rfl (lv_at hl 1 rfl) ?_
        refine va_get (D := g.1) (ci := 3) (v := .ref (a 0 0)) (C := RX4) (T := TX4) (N := 5) hx hb hts hi_X4 hown hK hP 0 rfl rfl 0 (by decide) fl_12 (fun _ h9 => h9) rfl dX4_team_49 ?_
        refine va_get (D := g.1) (ci := 2) (v := .ref (a 0 2)) (C := RX3) (T := TX3) (N := 12) hx hb hts hi_X3 hown hK hP 7 rfl rfl 1 (by decide) fl_60 (fun _ h9 => h9) rfl dX4_team_52 ?_
        refine lv_iload_n hx hb dX4_team_55 rfl (lv_at hl 0 rfl) ?_
        refine lv_aload_n hx hb dX4_team_56 rfl (lv_at hl 1 rfl) ?_
        refine va_get (D := g.1) (ci := 3) (v := .ref (a 0 0)) (C := RX4) (T := TX4) (N := 5) hx hb hts hi_X4 hown hK hP 0 rfl rfl 0 (by decide) fl_12 (fun _ h9 => h9) rfl dX4_team_57 ?_
        refine va_get (D := g.1) (ci := 2) (v := .ref (a 0 1)) (C := RX3) (T := TX3) (N := 12) hx hb hts hi_X3 hown hK hP 7 rfl rfl 0 (by decide) fl_49 (fun _ h9 => h9) rfl dX4_team_60 ?_
        refine lv_iconst (v := 0) hx hb dX4_team_63 (by decide) ?_
        refine q_iald (j := 0) hx hb hK hP 8 0 rfl rfl (by omega) (by decide) dX4_team_64 ?_
        refine q_iast (j := (s_n (v_now V))) hx hb hK hP hD hS 9 0 rfl rfl (by omega) (by decide) dX4_team_65 (fun H locs hP hS => ?_)
        have hP : va_P g.1 vwCl (q_pqW g a b (w_now (v_rec V) (u_paid (v_now V) (upd (s_paid (v_now V)) (s_n (v_now V)) (s_set (v_now V) 0))))) H := hP
        have hD : va_D (q_adr a b) (q_pqW g a b (w_now (v_rec V) (u_paid (v_now V) (upd (s_paid (v_now V)) (s_n (v_now V)) (s_set (v_now V) 0))))) := q_D hI (fun _ h => h)
        refine lv_aload_n hx hb dX4_team_66 rfl (lv_at hl 1 rfl) ?_
        refine va_get (D := g.1) (ci := 3) (v := .ref (a 0 0)) (C := RX4) (T := TX4) (N := 5) hx hb hts hi_X4 hown hK hP 0 rfl rfl 0 (by decide) fl_12 (fun _ h9 => h9) rfl dX4_team_67 ?_
        refine lv_iload_n hx hb dX4_team_70 rfl (lv_at hl 0 rfl) ?_
        refine lv_iconst (v := 1) hx hb dX4_team_71 (by decide) ?_
        refine lv_iadd hx hb dX4_team_72 ?_
        refine q_reI (show (((nI (s_n (v_now V))) + 1) : Int32) = nI (s_n (v_now V) + 1) from nI_1 _) ?_
        refine va_put (D := g.1) (ci := 2) (v := .int (nI (s_n (v_now V) + 1))) (ty := .int) (C := RX3) (T := TX3) (N := 12) hx hb hts hi_X3 tyX3 tyX3_ok nmX3 hown hK hP hD hS 7 rfl rfl 10 (by decide) fl_52 (fun _ h9 => h9) rfl (by decide +kernel) rfl rfl (Nat.le_of_ble_eq_true rfl) dX4_team_73 (fun H locs hP _ hS => ?_)
        have hP : va_P g.1 vwCl (q_pqW g a b (w_now (v_rec V) (u_n (u_paid (v_now V) (upd (s_paid (v_now V)) (s_n (v_now V)) (s_set (v_now V) 0))) (s_n (v_now V) + 1)))) H := hP
        have hD : va_D (q_adr a b) (q_pqW g a b (w_now (v_rec V) (u_n (u_paid (v_now V) (upd (s_paid (v_now V)) (s_n (v_now V)) (s_set (v_now V) 0))) (s_n (v_now V) + 1)))) := q_D hI (fun _ h => h)
        refine lv_iload_n hx hb dX4_team_76 rfl (lv_at hl 0 rfl) ?_
        exact q_miret hx hb hr hlk dX4_team_77 hP hS (by simp [teaR, teaV, teaE, teaS, c_9, c_15, c_31]) (congrArg (q_pqW g a b) (by simp [teaR, teaV, teaE, teaS, c_9, c_15, c_31]))
      · skip
        refine lv_bipush (v := (-5)) hx hb dX4_team_34 (by decide) ?_
        exact q_miret hx hb hr hlk dX4_team_36 hP hS (by simp [teaR, teaV, teaE, teaS, c_9, c_15, c_31]) (congrArg (q_pqW g a b) (by simp [teaR, teaV, teaE, teaS, c_9, c_15, c_31]))
    · skip
      have c_15 : ¬ s_n (v_now V) < 10 := fun q => c_15 (nI_lt q (by decide))
      refine lv_bipush (v := (-4)) hx hb dX4_team_18 (by decide) ?_
      exact q_miret hx hb hr hlk dX4_team_20 hP hS (by simp [teaR, teaV, teaE, teaS, c_9, c_15]) (congrArg (q_pqW g a b) (by simp [teaR, teaV, teaE, teaS, c_9, c_15]))

set_option maxHeartbeats 2000000 in
set_option maxRecDepth 100000 in
theorem c_X4_hand (l : Launch) (g : q_G) (a : Nat → Nat → Nat) (b : Nat → Nat) (V : q_CV) (hI : q_inj a b) (x : Int32) (y : Int32) (h1_ : s_n (v_now V) ≤ 10) (h2_ : v_nxt V < 6) (h3_ : v_hl V ≤ 6) (h4_ : v_pl V ≤ 80) : Met l yX4_hand wsX4_hand { frames := 4, cells := 0, slots := 0, locals := 82 } (va_Pc [.ref (b 0), .int x, .int y] (q_B g (q_pqW g a b V))) (q_QM g (q_adr a b) (q_pqW g a b (hanV V x y)) (some (.int (hanR V x y)))) 0 0 (q_adr a b) := by
  refine q_mm (cc := cX4_hand) (maxL := 3) (ret := (some .int)) (by decide) rfl (Nat.le_of_ble_eq_true rfl) ?_
  intro p e s m args below meth c ls hx hb hml hown hts hr hlk hnm hB hag hl
  obtain ⟨hP, hK, hN⟩ := hB
  have hS : va_S (q_adr a b) s.heap s.heap [] := va_S.rf
  have hP : va_P g.1 vwCl (q_pqW g a b V) s.heap := hP
  have hD : va_D (q_adr a b) (q_pqW g a b V) := q_D hI (fun _ h => h)
  have fl_12 := hts (.fieldLink RX4 12 "PubQuizzes" "now" "LPubQuizzes$State;") (by decide +kernel)
  have fl_19 := hts (.fieldLink RX4 19 "PubQuizzes" "history" "LPubQuizzes$History;") (by decide +kernel)
  have fl_26 := hts (.fieldLink RX4 26 "PubQuizzes" "pad" "LPubQuizzes$Pad;") (by decide +kernel)
  have fl_81 := hts (.fieldLink RX4 81 "PubQuizzes$State" "sheets" "[J") (by decide +kernel)
  have hi_X4 : ∀ w ∈ u_ws RX4 TX4 5, w ∈ wsX4_hand := by decide +kernel
  have hi_X3 : ∀ w ∈ u_ws RX3 TX3 12, w ∈ wsX4_hand := by decide +kernel
  have hl : lv_has ls 3 [(0, .ref (b 0)), (1, .int x), (2, .int y)] := hl
  refine lv_aload_n hx hb dX4_hand_0 rfl (lv_at hl 0 rfl) ?_
  refine va_get (D := g.1) (ci := 3) (v := .ref (a 0 0)) (C := RX4) (T := TX4) (N := 5) hx hb hts hi_X4 hown hK hP 0 rfl rfl 0 (by decide) fl_12 (fun _ h9 => h9) rfl dX4_hand_1 ?_
  refine lv_iload_n hx hb dX4_hand_4 rfl (lv_at hl 1 rfl) ?_
  refine q_V (As := [.int x]) (rest := []) ⟨hx, hb, hml, hown, hts⟩ (c_X3_isTeam l g (a 0) (v_now V) x ) (cwV 1 hts gX4_hand_X3_isTeam rfl rfl rfl (by decide +kernel) ⟨Nat.le_of_ble_eq_true rfl, Nat.le_of_ble_eq_true rfl⟩) q_B_blind (va_recv hK (q_nowP (V := V) hP) (ci := 2) (q0 := 0) rfl rfl) (q_B_of (q_nowP (V := V) hP) hK hN) rfl hl.1 rfl (Nat.le_of_ble_eq_true rfl) dX4_hand_5 (Nat.zero_le _) (Nat.zero_le _) ?_
  refine lv_if_eq (tgt := 18) hx hb dX4_hand_8 (by decide) (fun c_8 => ?_) (fun c_8 => ?_)
  · skip
    have c_8 : (isTm (v_now V) x) = false := bI_eq c_8
    refine lv_iconst (v := (-1)) hx hb dX4_hand_18 (by decide) ?_
    exact q_miret hx hb hr hlk dX4_hand_19 hP hS (by simp [hanR, hanV, hanE, hanS, c_8]) (congrArg (q_pqW g a b) (by simp [hanR, hanV, hanE, hanS, c_8]))
  · skip
    have c_8 : (isTm (v_now V) x) = true := bI_ne c_8
    obtain ⟨t1, ht1, ht1x, rfl⟩ := isTm_of h1_ c_8
    have ct1 : tN (nI t1) = t1 := tN_n (by omega)
    refine lv_iload_n hx hb dX4_hand_11 rfl (lv_at hl 2 rfl) ?_
    refine q_S (As := [.int y]) (rest := []) ⟨hx, hb, hml, hown, hts⟩ (c_X4_isRound l y ) (va_cwS 1 hts gX4_hand_X4_isRound rfl rfl rfl (by decide +kernel) ⟨Nat.le_of_ble_eq_true rfl, Nat.le_of_ble_eq_true rfl⟩) q_Blind_t (fun _ _ _ => trivial) rfl hl.1 rfl (Nat.le_of_ble_eq_true rfl) dX4_hand_12 (Nat.zero_le _) (Nat.zero_le _) ?_
    refine lv_if_ne (tgt := 20) hx hb dX4_hand_15 (by decide) (fun c_15 => ?_) (fun c_15 => ?_)
    · skip
      have c_15 : (isRd y) = true := bI_ne c_15
      obtain ⟨r1, hr1, rfl⟩ := isRd_of c_15
      have cr1 : tN (nI r1) = r1 := tN_n (by omega)
      refine lv_aload_n hx hb dX4_hand_20 rfl (lv_at hl 0 rfl) ?_
      refine va_get (D := g.1) (ci := 3) (v := .ref (b 1)) (C := RX4) (T := TX4) (N := 5) hx hb hts hi_X4 hown hK hP 0 rfl rfl 2 (by decide) fl_26 (fun _ h9 => h9) rfl dX4_hand_21 ?_
      refine q_V (As := []) (rest := []) ⟨hx, hb, hml, hown, hts⟩ (c_X1_tellsSheet l g (b 1) (b 2) (v_pc V) (v_pl V)  (by first | omega | assumption)) (cwV 0 hts gX4_hand_X1_tellsSheet rfl rfl rfl (by decide +kernel) ⟨Nat.le_of_ble_eq_true rfl, Nat.le_of_ble_eq_true rfl⟩) q_B_blind (va_recv hK (q_padP (V := V) hP) (ci := 1) (q0 := 0) rfl rfl) (q_B_of (q_padP (V := V) hP) hK hN) rfl hl.1 rfl (Nat.le_of_ble_eq_true rfl) dX4_hand_24 (Nat.zero_le _) (Nat.zero_le _) ?_
      refine lv_if_ne (tgt := 33) hx hb dX4_hand_27 (by decide) (fun c_27 => ?_) (fun c_27 => ?_)
      · skip
        have c_27 : (tshP (v_pc V) (v_pl V)) = true := bI_ne c_27
        refine lv_aload_n hx hb dX4_hand_33 rfl (lv_at hl 0 rfl) ?_
        refine va_get (D := g.1) (ci := 3) (v := .ref (a 0 0)) (C := RX4) (T := TX4) (N := 5) hx hb hts hi_X4 hown hK hP 0 rfl rfl 0 (by decide) fl_12 (fun _ h9 => h9) rfl dX4_hand_34 ?_
        refine lv_iload_n hx hb dX4_hand_37 rfl (lv_at hl 2 rfl) ?_
        refine q_V (As := [.int (nI r1)]) (rest := []) ⟨hx, hb, hml, hown, hts⟩ (c_X3_isOpen l g (a 0) (v_now V) r1 (by first | omega | assumption)) (cwV 1 hts gX4_hand_X3_isOpen rfl rfl rfl (by decide +kernel) ⟨Nat.le_of_ble_eq_true rfl, Nat.le_of_ble_eq_true rfl⟩) q_B_blind (va_recv hK (q_nowP (V := V) hP) (ci := 2) (q0 := 0) rfl rfl) (q_B_of (q_nowP (V := V) hP) hK hN) rfl hl.1 rfl (Nat.le_of_ble_eq_true rfl) dX4_hand_38 (Nat.zero_le _) (Nat.zero_le _) ?_
        refine lv_if_eq (tgt := 56) hx hb dX4_hand_41 (by decide) (fun c_41 => ?_) (fun c_41 => ?_)
        · skip
          have c_41 : (isOp (v_now V) r1) = false := bI_eq c_41
          refine lv_bipush (v := (-5)) hx hb dX4_hand_56 (by decide) ?_
          exact q_miret hx hb hr hlk dX4_hand_58 hP hS (by simp [hanR, hanV, hanE, hanS, ct1, c_8, cr1, c_15, c_27, c_41]) (congrArg (q_pqW g a b) (by simp [hanR, hanV, hanE, hanS, ct1, c_8, cr1, c_15, c_27, c_41]))
        · skip
          have c_41 : (isOp (v_now V) r1) = true := bI_ne c_41
          refine lv_aload_n hx hb dX4_hand_44 rfl (lv_at hl 0 rfl) ?_
          refine va_get (D := g.1) (ci := 3) (v := .ref (a 0 0)) (C := RX4) (T := TX4) (N := 5) hx hb hts hi_X4 hown hK hP 0 rfl rfl 0 (by decide) fl_12 (fun _ h9 => h9) rfl dX4_hand_45 ?_
          refine lv_iload_n hx hb dX4_hand_48 rfl (lv_at hl 1 rfl) ?_
          refine lv_iload_n hx hb dX4_hand_49 rfl (lv_at hl 2 rfl) ?_
          refine q_V (As := [.int (nI t1), .int (nI r1)]) (rest := []) ⟨hx, hb, hml, hown, hts⟩ (c_X3_hasSheet l g (a 0) (v_now V) t1 r1 (by first | omega | assumption) (by first | omega | assumption)) (cwV 2 hts gX4_hand_X3_hasSheet rfl rfl rfl (by decide +kernel) ⟨Nat.le_of_ble_eq_true rfl, Nat.le_of_ble_eq_true rfl⟩) q_B_blind (va_recv hK (q_nowP (V := V) hP) (ci := 2) (q0 := 0) rfl rfl) (q_B_of (q_nowP (V := V) hP) hK hN) rfl hl.1 rfl (Nat.le_of_ble_eq_true rfl) dX4_hand_50 (Nat.zero_le _) (Nat.zero_le _) ?_
          refine lv_if_eq (tgt := 59) hx hb dX4_hand_53 (by decide) (fun c_53 => ?_) (fun c_53 => ?_)
          · skip
            have c_53 : (hasS (v_now V) t1 r1) = false := bI_eq c_53
            refine lv_aload_n hx hb dX4_hand_59 rfl (lv_at hl 0 rfl) ?_
            refine va_get (D := g.1) (ci := 3) (v := .ref (b 3)) (C := RX4) (T := TX4) (N := 5) hx hb hts hi_X4 hown hK hP 0 rfl rfl 1 (by decide) fl_19 (fun _ h9 => h9) rfl dX4_hand_60 ?_
            refine lv_aload_n hx hb dX4_hand_63 rfl (lv_at hl 0 rfl) ?_
            refine va_get (D := g.1) (ci := 3) (v := .ref (a 0 0)) (C := RX4) (T := TX4) (N := 5) hx hb hts hi_X4 hown hK hP 0 rfl rfl 0 (by decide) fl_12 (fun _ h9 => h9) rfl dX4_hand_64 ?_
            refine q_VM (As := [.ref (a 0 0)]) (rest := []) (st2 := []) ⟨hx, hb, hml, hown, hts⟩ (c_X0_record l g a b V hI  (by first | omega | assumption) (by first | omega | assumption)) (cwV 1 hts gX4_hand_X0_record rfl rfl rfl (by decide +kernel) ⟨Nat.le_of_ble_eq_true rfl, Nat.le_of_ble_eq_true rfl⟩) q_B_blind (va_recv hK hP (ci := 0) (q0 := 3) rfl rfl) (q_B_of hP hK hN) rfl hl.1 rfl (Nat.le_of_ble_eq_true rfl) dX4_hand_67 (Nat.zero_le _) (Nat.zero_le _) hS (fun _ h => h) rfl rfl rfl (fun H locs hP _ hS _ => ?_)
            have hP : va_P g.1 vwCl (q_pqW g a b (v_rec V)) H := hP
            have hD : va_D (q_adr a b) (q_pqW g a b (v_rec V)) := q_D hI (fun _ h => h)
            refine lv_aload_n hx hb dX4_hand_70 rfl (lv_at hl 0 rfl) ?_
            refine va_get (D := g.1) (ci := 3) (v := .ref (a 0 0)) (C := RX4) (T := TX4) (N := 5) hx hb hts hi_X4 hown hK hP 0 rfl rfl 0 (by decide) fl_12 (fun _ h9 => h9) rfl dX4_hand_71 ?_
            refine va_get (D := g.1) (ci := 2) (v := .ref (a 0 7)) (C := RX3) (T := TX3) (N := 12) hx hb hts hi_X3 hown hK hP 7 rfl rfl 6 (by decide) fl_81 (fun _ h9 => h9) rfl dX4_hand_74 ?_
            refine lv_iload_n hx hb dX4_hand_77 rfl (lv_at hl 1 rfl) ?_
            refine lv_iload_n hx hb dX4_hand_78 rfl (lv_at hl 2 rfl) ?_
            refine q_S (As := [.int (nI t1), .int (nI r1)]) (rest := [.ref (a 0 7)]) ⟨hx, hb, hml, hown, hts⟩ (c_X4_indexOf l t1 r1 ) (va_cwS 2 hts gX4_hand_X4_indexOf rfl rfl rfl (by decide +kernel) ⟨Nat.le_of_ble_eq_true rfl, Nat.le_of_ble_eq_true rfl⟩) q_Blind_t (fun _ _ _ => trivial) rfl hl.1 rfl (Nat.le_of_ble_eq_true rfl) dX4_hand_79 (Nat.zero_le _) (Nat.zero_le _) ?_
            refine lv_aload_n hx hb dX4_hand_82 rfl (lv_at hl 0 rfl) ?_
            refine va_get (D := g.1) (ci := 3) (v := .ref (b 1)) (C := RX4) (T := TX4) (N := 5) hx hb hts hi_X4 hown hK hP 0 rfl rfl 2 (by decide) fl_26 (fun _ h9 => h9) rfl dX4_hand_83 ?_
            refine q_V (As := []) (rest := [.int (nI (t1 * 8 + r1)), .ref (a 0 7)]) ⟨hx, hb, hml, hown, hts⟩ (c_X1_signs l g (b 1) (b 2) (v_pc V) (v_pl V)  ) (cwV 0 hts gX4_hand_X1_signs rfl rfl rfl (by decide +kernel) ⟨Nat.le_of_ble_eq_true rfl, Nat.le_of_ble_eq_true rfl⟩) q_B_blind (va_recv hK (q_padP (V := v_rec V) hP) (ci := 1) (q0 := 0) rfl rfl) (q_B_of (q_padP (V := v_rec V) hP) hK hN) rfl hl.1 rfl (Nat.le_of_ble_eq_true rfl) dX4_hand_86 (Nat.zero_le _) (Nat.zero_le _) ?_
            refine q_last (j := (t1 * 8 + r1)) hx hb hK hP hD hS 14 1 rfl rfl (by omega) (by decide) dX4_hand_89 (fun H locs hP hS => ?_)
            have hP : va_P g.1 vwCl (q_pqW g a b (w_now (v_rec V) (u_she (v_now V) (vp_updL (s_she (v_now V)) (t1 * 8 + r1) (sigs (v_pc V) 10))))) H := hP
            have hD : va_D (q_adr a b) (q_pqW g a b (w_now (v_rec V) (u_she (v_now V) (vp_updL (s_she (v_now V)) (t1 * 8 + r1) (sigs (v_pc V) 10))))) := q_D hI (fun _ h => h)
            refine lv_aload_n hx hb dX4_hand_90 rfl (lv_at hl 0 rfl) ?_
            refine va_get (D := g.1) (ci := 3) (v := .ref (b 1)) (C := RX4) (T := TX4) (N := 5) hx hb hts hi_X4 hown hK hP 0 rfl rfl 2 (by decide) fl_26 (fun _ h9 => h9) rfl dX4_hand_91 ?_
            refine q_VM (As := []) (rest := []) (st2 := []) ⟨hx, hb, hml, hown, hts⟩ (c_X1_clear l g a b (w_now (v_rec V) (u_she (v_now V) (vp_updL (s_she (v_now V)) (t1 * 8 + r1) (sigs (v_pc V) 10)))) hI  ) (cwV 0 hts gX4_hand_X1_clear rfl rfl rfl (by decide +kernel) ⟨Nat.le_of_ble_eq_true rfl, Nat.le_of_ble_eq_true rfl⟩) q_B_blind (va_recv hK hP (ci := 1) (q0 := 1) rfl rfl) (q_B_of hP hK hN) rfl hl.1 rfl (Nat.le_of_ble_eq_true rfl) dX4_hand_94 (Nat.zero_le _) (Nat.zero_le _) hS (fun _ h => h) rfl rfl rfl (fun H locs hP _ hS _ => ?_)
            have hP : va_P g.1 vwCl (q_pqW g a b (w_pl (w_now (v_rec V) (u_she (v_now V) (vp_updL (s_she (v_now V)) (t1 * 8 + r1) (sigs (v_pc V) 10)))) 0)) H := hP
            have hD : va_D (q_adr a b) (q_pqW g a b (w_pl (w_now (v_rec V) (u_she (v_now V) (vp_updL (s_she (v_now V)) (t1 * 8 + r1) (sigs (v_pc V) 10)))) 0)) := q_D hI (fun _ h => h)
            refine lv_aload_n hx hb dX4_hand_97 rfl (lv_at hl 0 rfl) ?_
            refine va_get (D := g.1) (ci := 3) (v := .ref (a 0 0)) (C := RX4) (T := TX4) (N := 5) hx hb hts hi_X4 hown hK hP 0 rfl rfl 0 (by decide) fl_12 (fun _ h9 => h9) rfl dX4_hand_98 ?_
            refine lv_iload_n hx hb dX4_hand_101 rfl (lv_at hl 1 rfl) ?_
            refine lv_iload_n hx hb dX4_hand_102 rfl (lv_at hl 2 rfl) ?_
            refine q_V (As := [.int (nI t1), .int (nI r1)]) (rest := []) ⟨hx, hb, hml, hown, hts⟩ (c_X3_answered l g (a 0) (u_she (v_now V) (vp_updL (s_she (v_now V)) (t1 * 8 + r1) (sigs (v_pc V) 10))) t1 r1 (by first | omega | assumption) (by first | omega | assumption)) (cwV 2 hts gX4_hand_X3_answered rfl rfl rfl (by decide +kernel) ⟨Nat.le_of_ble_eq_true rfl, Nat.le_of_ble_eq_true rfl⟩) q_B_blind (va_recv hK (q_nowP (V := w_pl (w_now (v_rec V) (u_she (v_now V) (vp_updL (s_she (v_now V)) (t1 * 8 + r1) (sigs (v_pc V) 10)))) 0) hP) (ci := 2) (q0 := 0) rfl rfl) (q_B_of (q_nowP (V := w_pl (w_now (v_rec V) (u_she (v_now V) (vp_updL (s_she (v_now V)) (t1 * 8 + r1) (sigs (v_pc V) 10)))) 0) hP) hK hN) rfl hl.1 rfl (Nat.le_of_ble_eq_true rfl) dX4_hand_103 (Nat.zero_le _) (Nat.zero_le _) ?_
            exact q_miret hx hb hr hlk dX4_hand_106 hP hS (by simp [hanR, hanV, hanE, hanS, ct1, c_8, cr1, c_15, c_27, c_41, c_53]) (congrArg (q_pqW g a b) (by simp [hanR, hanV, hanE, hanS, ct1, c_8, cr1, c_15, c_27, c_41, c_53]))
          · skip
            have c_53 : (hasS (v_now V) t1 r1) = true := bI_ne c_53
            refine lv_bipush (v := (-5)) hx hb dX4_hand_56 (by decide) ?_
            exact q_miret hx hb hr hlk dX4_hand_58 hP hS (by simp [hanR, hanV, hanE, hanS, ct1, c_8, cr1, c_15, c_27, c_41, c_53]) (congrArg (q_pqW g a b) (by simp [hanR, hanV, hanE, hanS, ct1, c_8, cr1, c_15, c_27, c_41, c_53]))
      · skip
        have c_27 : (tshP (v_pc V) (v_pl V)) = false := bI_eq c_27
        refine lv_bipush (v := (-3)) hx hb dX4_hand_30 (by decide) ?_
        exact q_miret hx hb hr hlk dX4_hand_32 hP hS (by simp [hanR, hanV, hanE, hanS, ct1, c_8, cr1, c_15, c_27]) (congrArg (q_pqW g a b) (by simp [hanR, hanV, hanE, hanS, ct1, c_8, cr1, c_15, c_27]))
    · skip
      have c_15 : (isRd y) = false := bI_eq c_15
      refine lv_iconst (v := (-1)) hx hb dX4_hand_18 (by decide) ?_
      exact q_miret hx hb hr hlk dX4_hand_19 hP hS (by simp [hanR, hanV, hanE, hanS, ct1, c_8, c_15]) (congrArg (q_pqW g a b) (by simp [hanR, hanV, hanE, hanS, ct1, c_8, c_15]))

set_option maxHeartbeats 2000000 in
set_option maxRecDepth 100000 in
theorem c_X4_joker (l : Launch) (g : q_G) (a : Nat → Nat → Nat) (b : Nat → Nat) (V : q_CV) (hI : q_inj a b) (x : Int32) (y : Int32) (h1_ : s_n (v_now V) ≤ 10) (h2_ : v_nxt V < 6) (h3_ : v_hl V ≤ 6) : Met l yX4_joker wsX4_joker { frames := 3, cells := 0, slots := 0, locals := 82 } (va_Pc [.ref (b 0), .int x, .int y] (q_B g (q_pqW g a b V))) (q_QM g (q_adr a b) (q_pqW g a b (jokV V x y)) (some (.int (jokR V x y)))) 0 0 (q_adr a b) := by
  refine q_mm (cc := cX4_joker) (maxL := 3) (ret := (some .int)) (by decide) rfl (Nat.le_of_ble_eq_true rfl) ?_
  intro p e s m args below meth c ls hx hb hml hown hts hr hlk hnm hB hag hl
  obtain ⟨hP, hK, hN⟩ := hB
  have hS : va_S (q_adr a b) s.heap s.heap [] := va_S.rf
  have hP : va_P g.1 vwCl (q_pqW g a b V) s.heap := hP
  have hD : va_D (q_adr a b) (q_pqW g a b V) := q_D hI (fun _ h => h)
  have fl_12 := hts (.fieldLink RX4 12 "PubQuizzes" "now" "LPubQuizzes$State;") (by decide +kernel)
  have fl_19 := hts (.fieldLink RX4 19 "PubQuizzes" "history" "LPubQuizzes$History;") (by decide +kernel)
  have fl_99 := hts (.fieldLink RX4 99 "PubQuizzes$State" "jokers" "[I") (by decide +kernel)
  have hi_X4 : ∀ w ∈ u_ws RX4 TX4 5, w ∈ wsX4_joker := by decide +kernel
  have hi_X3 : ∀ w ∈ u_ws RX3 TX3 12, w ∈ wsX4_joker := by decide +kernel
  have hl : lv_has ls 3 [(0, .ref (b 0)), (1, .int x), (2, .int y)] := hl
  refine lv_aload_n hx hb dX4_joker_0 rfl (lv_at hl 0 rfl) ?_
  refine va_get (D := g.1) (ci := 3) (v := .ref (a 0 0)) (C := RX4) (T := TX4) (N := 5) hx hb hts hi_X4 hown hK hP 0 rfl rfl 0 (by decide) fl_12 (fun _ h9 => h9) rfl dX4_joker_1 ?_
  refine lv_iload_n hx hb dX4_joker_4 rfl (lv_at hl 1 rfl) ?_
  refine q_V (As := [.int x]) (rest := []) ⟨hx, hb, hml, hown, hts⟩ (c_X3_isTeam l g (a 0) (v_now V) x ) (cwV 1 hts gX4_joker_X3_isTeam rfl rfl rfl (by decide +kernel) ⟨Nat.le_of_ble_eq_true rfl, Nat.le_of_ble_eq_true rfl⟩) q_B_blind (va_recv hK (q_nowP (V := V) hP) (ci := 2) (q0 := 0) rfl rfl) (q_B_of (q_nowP (V := V) hP) hK hN) rfl hl.1 rfl (Nat.le_of_ble_eq_true rfl) dX4_joker_5 (Nat.zero_le _) (Nat.zero_le _) ?_
  refine lv_if_eq (tgt := 18) hx hb dX4_joker_8 (by decide) (fun c_8 => ?_) (fun c_8 => ?_)
  · skip
    have c_8 : (isTm (v_now V) x) = false := bI_eq c_8
    refine lv_iconst (v := (-1)) hx hb dX4_joker_18 (by decide) ?_
    exact q_miret hx hb hr hlk dX4_joker_19 hP hS (by simp [jokR, jokV, jokE, jokS, c_8]) (congrArg (q_pqW g a b) (by simp [jokR, jokV, jokE, jokS, c_8]))
  · skip
    have c_8 : (isTm (v_now V) x) = true := bI_ne c_8
    obtain ⟨t1, ht1, ht1x, rfl⟩ := isTm_of h1_ c_8
    have ct1 : tN (nI t1) = t1 := tN_n (by omega)
    refine lv_iload_n hx hb dX4_joker_11 rfl (lv_at hl 2 rfl) ?_
    refine q_S (As := [.int y]) (rest := []) ⟨hx, hb, hml, hown, hts⟩ (c_X4_isRound l y ) (va_cwS 1 hts gX4_joker_X4_isRound rfl rfl rfl (by decide +kernel) ⟨Nat.le_of_ble_eq_true rfl, Nat.le_of_ble_eq_true rfl⟩) q_Blind_t (fun _ _ _ => trivial) rfl hl.1 rfl (Nat.le_of_ble_eq_true rfl) dX4_joker_12 (Nat.zero_le _) (Nat.zero_le _) ?_
    refine lv_if_ne (tgt := 20) hx hb dX4_joker_15 (by decide) (fun c_15 => ?_) (fun c_15 => ?_)
    · skip
      have c_15 : (isRd y) = true := bI_ne c_15
      obtain ⟨r1, hr1, rfl⟩ := isRd_of c_15
      have cr1 : tN (nI r1) = r1 := tN_n (by omega)
      refine lv_aload_n hx hb dX4_joker_20 rfl (lv_at hl 0 rfl) ?_
      refine va_get (D := g.1) (ci := 3) (v := .ref (a 0 0)) (C := RX4) (T := TX4) (N := 5) hx hb hts hi_X4 hown hK hP 0 rfl rfl 0 (by decide) fl_12 (fun _ h9 => h9) rfl dX4_joker_21 ?_
      refine va_get (D := g.1) (ci := 2) (v := .ref (a 0 3)) (C := RX3) (T := TX3) (N := 12) hx hb hts hi_X3 hown hK hP 7 rfl rfl 2 (by decide) fl_99 (fun _ h9 => h9) rfl dX4_joker_24 ?_
      refine lv_iload_n hx hb dX4_joker_27 rfl (lv_at hl 1 rfl) ?_
      refine q_iald (j := t1) hx hb hK hP 10 0 rfl rfl (by omega) (by decide) dX4_joker_28 ?_
      refine lv_bipush (v := (-6)) hx hb dX4_joker_29 (by decide) ?_
      refine lv_icmp_ne (tgt := 57) hx hb dX4_joker_31 (by decide) (fun c_31 => ?_) (fun c_31 => ?_)
      · skip
        refine lv_bipush (v := (-5)) hx hb dX4_joker_57 (by decide) ?_
        exact q_miret hx hb hr hlk dX4_joker_59 hP hS (by simp [jokR, jokV, jokE, jokS, ct1, c_8, cr1, c_15, c_31]) (congrArg (q_pqW g a b) (by simp [jokR, jokV, jokE, jokS, ct1, c_8, cr1, c_15, c_31]))
      · skip
        refine lv_aload_n hx hb dX4_joker_34 rfl (lv_at hl 0 rfl) ?_
        refine va_get (D := g.1) (ci := 3) (v := .ref (a 0 0)) (C := RX4) (T := TX4) (N := 5) hx hb hts hi_X4 hown hK hP 0 rfl rfl 0 (by decide) fl_12 (fun _ h9 => h9) rfl dX4_joker_35 ?_
        refine lv_iload_n hx hb dX4_joker_38 rfl (lv_at hl 2 rfl) ?_
        refine q_V (As := [.int (nI r1)]) (rest := []) ⟨hx, hb, hml, hown, hts⟩ (c_X3_isOpen l g (a 0) (v_now V) r1 (by first | omega | assumption)) (cwV 1 hts gX4_joker_X3_isOpen rfl rfl rfl (by decide +kernel) ⟨Nat.le_of_ble_eq_true rfl, Nat.le_of_ble_eq_true rfl⟩) q_B_blind (va_recv hK (q_nowP (V := V) hP) (ci := 2) (q0 := 0) rfl rfl) (q_B_of (q_nowP (V := V) hP) hK hN) rfl hl.1 rfl (Nat.le_of_ble_eq_true rfl) dX4_joker_39 (Nat.zero_le _) (Nat.zero_le _) ?_
        refine lv_if_eq (tgt := 57) hx hb dX4_joker_42 (by decide) (fun c_42 => ?_) (fun c_42 => ?_)
        · skip
          have c_42 : (isOp (v_now V) r1) = false := bI_eq c_42
          refine lv_bipush (v := (-5)) hx hb dX4_joker_57 (by decide) ?_
          exact q_miret hx hb hr hlk dX4_joker_59 hP hS (by simp [jokR, jokV, jokE, jokS, ct1, c_8, cr1, c_15, c_31, c_42]) (congrArg (q_pqW g a b) (by simp [jokR, jokV, jokE, jokS, ct1, c_8, cr1, c_15, c_31, c_42]))
        · skip
          have c_42 : (isOp (v_now V) r1) = true := bI_ne c_42
          refine lv_aload_n hx hb dX4_joker_45 rfl (lv_at hl 0 rfl) ?_
          refine va_get (D := g.1) (ci := 3) (v := .ref (a 0 0)) (C := RX4) (T := TX4) (N := 5) hx hb hts hi_X4 hown hK hP 0 rfl rfl 0 (by decide) fl_12 (fun _ h9 => h9) rfl dX4_joker_46 ?_
          refine lv_iload_n hx hb dX4_joker_49 rfl (lv_at hl 1 rfl) ?_
          refine lv_iload_n hx hb dX4_joker_50 rfl (lv_at hl 2 rfl) ?_
          refine q_V (As := [.int (nI t1), .int (nI r1)]) (rest := []) ⟨hx, hb, hml, hown, hts⟩ (c_X3_hasSheet l g (a 0) (v_now V) t1 r1 (by first | omega | assumption) (by first | omega | assumption)) (cwV 2 hts gX4_joker_X3_hasSheet rfl rfl rfl (by decide +kernel) ⟨Nat.le_of_ble_eq_true rfl, Nat.le_of_ble_eq_true rfl⟩) q_B_blind (va_recv hK (q_nowP (V := V) hP) (ci := 2) (q0 := 0) rfl rfl) (q_B_of (q_nowP (V := V) hP) hK hN) rfl hl.1 rfl (Nat.le_of_ble_eq_true rfl) dX4_joker_51 (Nat.zero_le _) (Nat.zero_le _) ?_
          refine lv_if_eq (tgt := 60) hx hb dX4_joker_54 (by decide) (fun c_54 => ?_) (fun c_54 => ?_)
          · skip
            have c_54 : (hasS (v_now V) t1 r1) = false := bI_eq c_54
            refine lv_aload_n hx hb dX4_joker_60 rfl (lv_at hl 0 rfl) ?_
            refine va_get (D := g.1) (ci := 3) (v := .ref (b 3)) (C := RX4) (T := TX4) (N := 5) hx hb hts hi_X4 hown hK hP 0 rfl rfl 1 (by decide) fl_19 (fun _ h9 => h9) rfl dX4_joker_61 ?_
            refine lv_aload_n hx hb dX4_joker_64 rfl (lv_at hl 0 rfl) ?_
            refine va_get (D := g.1) (ci := 3) (v := .ref (a 0 0)) (C := RX4) (T := TX4) (N := 5) hx hb hts hi_X4 hown hK hP 0 rfl rfl 0 (by decide) fl_12 (fun _ h9 => h9) rfl dX4_joker_65 ?_
            refine q_VM (As := [.ref (a 0 0)]) (rest := []) (st2 := []) ⟨hx, hb, hml, hown, hts⟩ (c_X0_record l g a b V hI  (by first | omega | assumption) (by first | omega | assumption)) (cwV 1 hts gX4_joker_X0_record rfl rfl rfl (by decide +kernel) ⟨Nat.le_of_ble_eq_true rfl, Nat.le_of_ble_eq_true rfl⟩) q_B_blind (va_recv hK hP (ci := 0) (q0 := 3) rfl rfl) (q_B_of hP hK hN) rfl hl.1 rfl (Nat.le_of_ble_eq_true rfl) dX4_joker_68 (Nat.zero_le _) (Nat.zero_le _) hS (fun _ h => h) rfl rfl rfl (fun H locs hP _ hS _ => ?_)
            have hP : va_P g.1 vwCl (q_pqW g a b (v_rec V)) H := hP
            have hD : va_D (q_adr a b) (q_pqW g a b (v_rec V)) := q_D hI (fun _ h => h)
            refine lv_aload_n hx hb dX4_joker_71 rfl (lv_at hl 0 rfl) ?_
            refine va_get (D := g.1) (ci := 3) (v := .ref (a 0 0)) (C := RX4) (T := TX4) (N := 5) hx hb hts hi_X4 hown hK hP 0 rfl rfl 0 (by decide) fl_12 (fun _ h9 => h9) rfl dX4_joker_72 ?_
            refine va_get (D := g.1) (ci := 2) (v := .ref (a 0 3)) (C := RX3) (T := TX3) (N := 12) hx hb hts hi_X3 hown hK hP 7 rfl rfl 2 (by decide) fl_99 (fun _ h9 => h9) rfl dX4_joker_75 ?_
            refine lv_iload_n hx hb dX4_joker_78 rfl (lv_at hl 1 rfl) ?_
            refine lv_iload_n hx hb dX4_joker_79 rfl (lv_at hl 2 rfl) ?_
            refine q_iast (j := t1) hx hb hK hP hD hS 10 0 rfl rfl (by omega) (by decide) dX4_joker_80 (fun H locs hP hS => ?_)
            have hP : va_P g.1 vwCl (q_pqW g a b (w_now (v_rec V) (u_jok (v_now V) (upd (s_jok (v_now V)) t1 (nI r1))))) H := hP
            have hD : va_D (q_adr a b) (q_pqW g a b (w_now (v_rec V) (u_jok (v_now V) (upd (s_jok (v_now V)) t1 (nI r1))))) := q_D hI (fun _ h => h)
            refine lv_aload_n hx hb dX4_joker_81 rfl (lv_at hl 0 rfl) ?_
            refine va_get (D := g.1) (ci := 3) (v := .ref (a 0 0)) (C := RX4) (T := TX4) (N := 5) hx hb hts hi_X4 hown hK hP 0 rfl rfl 0 (by decide) fl_12 (fun _ h9 => h9) rfl dX4_joker_82 ?_
            refine lv_iload_n hx hb dX4_joker_85 rfl (lv_at hl 2 rfl) ?_
            refine q_V (As := [.int (nI r1)]) (rest := []) ⟨hx, hb, hml, hown, hts⟩ (c_X3_teamsWithJoker l g (a 0) (u_jok (v_now V) (upd (s_jok (v_now V)) t1 (nI r1))) r1 (by first | omega | assumption) (by first | omega | assumption)) (cwV 1 hts gX4_joker_X3_teamsWithJoker rfl rfl rfl (by decide +kernel) ⟨Nat.le_of_ble_eq_true rfl, Nat.le_of_ble_eq_true rfl⟩) q_B_blind (va_recv hK (q_nowP (V := w_now (v_rec V) (u_jok (v_now V) (upd (s_jok (v_now V)) t1 (nI r1)))) hP) (ci := 2) (q0 := 0) rfl rfl) (q_B_of (q_nowP (V := w_now (v_rec V) (u_jok (v_now V) (upd (s_jok (v_now V)) t1 (nI r1)))) hP) hK hN) rfl hl.1 rfl (Nat.le_of_ble_eq_true rfl) dX4_joker_86 (Nat.zero_le _) (Nat.zero_le _) ?_
            refine q_S (As := [.int (q_or (fun t => decide (s_jok (u_jok (v_now V) (upd (s_jok (v_now V)) t1 (nI r1))) t = nI r1)) (s_n (u_jok (v_now V) (upd (s_jok (v_now V)) t1 (nI r1)))))]) (rest := []) ⟨hx, hb, hml, hown, hts⟩ (c_J6_bitCount_0f7a4 l (q_or (fun t => decide (s_jok (u_jok (v_now V) (upd (s_jok (v_now V)) t1 (nI r1))) t = nI r1)) (s_n (u_jok (v_now V) (upd (s_jok (v_now V)) t1 (nI r1))))) ) (va_cwS 1 hts gX4_joker_J6_bitCount_0f7a4 rfl rfl rfl (by decide +kernel) ⟨Nat.le_of_ble_eq_true rfl, Nat.le_of_ble_eq_true rfl⟩) q_Blind_t (fun _ _ _ => trivial) rfl hl.1 rfl (Nat.le_of_ble_eq_true rfl) dX4_joker_89 (Nat.zero_le _) (Nat.zero_le _) ?_
            exact q_miret hx hb hr hlk dX4_joker_92 hP hS ((q_popN _ _ h1_).trans (by simp [jokR, jokE, jokS, ct1, c_8, cr1, c_15, c_31, c_42, c_54])) (congrArg (q_pqW g a b) (by simp [jokR, jokV, jokE, jokS, ct1, c_8, cr1, c_15, c_31, c_42, c_54]))
          · skip
            have c_54 : (hasS (v_now V) t1 r1) = true := bI_ne c_54
            refine lv_bipush (v := (-5)) hx hb dX4_joker_57 (by decide) ?_
            exact q_miret hx hb hr hlk dX4_joker_59 hP hS (by simp [jokR, jokV, jokE, jokS, ct1, c_8, cr1, c_15, c_31, c_42, c_54]) (congrArg (q_pqW g a b) (by simp [jokR, jokV, jokE, jokS, ct1, c_8, cr1, c_15, c_31, c_42, c_54]))
    · skip
      have c_15 : (isRd y) = false := bI_eq c_15
      refine lv_iconst (v := (-1)) hx hb dX4_joker_18 (by decide) ?_
      exact q_miret hx hb hr hlk dX4_joker_19 hP hS (by simp [jokR, jokV, jokE, jokS, ct1, c_8, c_15]) (congrArg (q_pqW g a b) (by simp [jokR, jokV, jokE, jokS, ct1, c_8, c_15]))

set_option maxHeartbeats 2000000 in
set_option maxRecDepth 100000 in
theorem c_X4_key (l : Launch) (g : q_G) (a : Nat → Nat → Nat) (b : Nat → Nat) (V : q_CV) (hI : q_inj a b) (y : Int32) (h1_ : s_n (v_now V) ≤ 10) (h2_ : v_nxt V < 6) (h3_ : v_hl V ≤ 6) (h4_ : v_pl V ≤ 80) : Met l yX4_key wsX4_key { frames := 5, cells := 0, slots := 0, locals := 102 } (va_Pc [.ref (b 0), .int y] (q_B g (q_pqW g a b V))) (q_QM g (q_adr a b) (q_pqW g a b (keyV V y)) (some (.int (keyR V y)))) 0 0 (q_adr a b) := by
  refine q_mm (cc := cX4_key) (maxL := 2) (ret := (some .int)) (by decide) rfl (Nat.le_of_ble_eq_true rfl) ?_
  intro p e s m args below meth c ls hx hb hml hown hts hr hlk hnm hB hag hl
  obtain ⟨hP, hK, hN⟩ := hB
  have hS : va_S (q_adr a b) s.heap s.heap [] := va_S.rf
  have hP : va_P g.1 vwCl (q_pqW g a b V) s.heap := hP
  have hD : va_D (q_adr a b) (q_pqW g a b V) := q_D hI (fun _ h => h)
  have fl_12 := hts (.fieldLink RX4 12 "PubQuizzes" "now" "LPubQuizzes$State;") (by decide +kernel)
  have fl_19 := hts (.fieldLink RX4 19 "PubQuizzes" "history" "LPubQuizzes$History;") (by decide +kernel)
  have fl_26 := hts (.fieldLink RX4 26 "PubQuizzes" "pad" "LPubQuizzes$Pad;") (by decide +kernel)
  have fl_114 := hts (.fieldLink RX4 114 "PubQuizzes$State" "keys" "[J") (by decide +kernel)
  have hi_X4 : ∀ w ∈ u_ws RX4 TX4 5, w ∈ wsX4_key := by decide +kernel
  have hi_X3 : ∀ w ∈ u_ws RX3 TX3 12, w ∈ wsX4_key := by decide +kernel
  have hl : lv_has ls 2 [(0, .ref (b 0)), (1, .int y)] := hl
  refine lv_iload_n hx hb dX4_key_0 rfl (lv_at hl 1 rfl) ?_
  refine q_S (As := [.int y]) (rest := []) ⟨hx, hb, hml, hown, hts⟩ (c_X4_isRound l y ) (va_cwS 1 hts gX4_key_X4_isRound rfl rfl rfl (by decide +kernel) ⟨Nat.le_of_ble_eq_true rfl, Nat.le_of_ble_eq_true rfl⟩) q_Blind_t (fun _ _ _ => trivial) rfl hl.1 rfl (Nat.le_of_ble_eq_true rfl) dX4_key_1 (Nat.zero_le _) (Nat.zero_le _) ?_
  refine lv_if_ne (tgt := 9) hx hb dX4_key_4 (by decide) (fun c_4 => ?_) (fun c_4 => ?_)
  · skip
    have c_4 : (isRd y) = true := bI_ne c_4
    obtain ⟨r1, hr1, rfl⟩ := isRd_of c_4
    have cr1 : tN (nI r1) = r1 := tN_n (by omega)
    refine lv_aload_n hx hb dX4_key_9 rfl (lv_at hl 0 rfl) ?_
    refine va_get (D := g.1) (ci := 3) (v := .ref (b 1)) (C := RX4) (T := TX4) (N := 5) hx hb hts hi_X4 hown hK hP 0 rfl rfl 2 (by decide) fl_26 (fun _ h9 => h9) rfl dX4_key_10 ?_
    refine q_V (As := []) (rest := []) ⟨hx, hb, hml, hown, hts⟩ (c_X1_tellsKey l g (b 1) (b 2) (v_pc V) (v_pl V)  (by first | omega | assumption)) (cwV 0 hts gX4_key_X1_tellsKey rfl rfl rfl (by decide +kernel) ⟨Nat.le_of_ble_eq_true rfl, Nat.le_of_ble_eq_true rfl⟩) q_B_blind (va_recv hK (q_padP (V := V) hP) (ci := 1) (q0 := 0) rfl rfl) (q_B_of (q_padP (V := V) hP) hK hN) rfl hl.1 rfl (Nat.le_of_ble_eq_true rfl) dX4_key_13 (Nat.zero_le _) (Nat.zero_le _) ?_
    refine lv_if_ne (tgt := 22) hx hb dX4_key_16 (by decide) (fun c_16 => ?_) (fun c_16 => ?_)
    · skip
      have c_16 : (tkyP (v_pc V) (v_pl V)) = true := bI_ne c_16
      refine lv_aload_n hx hb dX4_key_22 rfl (lv_at hl 0 rfl) ?_
      refine va_get (D := g.1) (ci := 3) (v := .ref (a 0 0)) (C := RX4) (T := TX4) (N := 5) hx hb hts hi_X4 hown hK hP 0 rfl rfl 0 (by decide) fl_12 (fun _ h9 => h9) rfl dX4_key_23 ?_
      refine lv_iload_n hx hb dX4_key_26 rfl (lv_at hl 1 rfl) ?_
      refine q_V (As := [.int (nI r1)]) (rest := []) ⟨hx, hb, hml, hown, hts⟩ (c_X3_isOpen l g (a 0) (v_now V) r1 (by first | omega | assumption)) (cwV 1 hts gX4_key_X3_isOpen rfl rfl rfl (by decide +kernel) ⟨Nat.le_of_ble_eq_true rfl, Nat.le_of_ble_eq_true rfl⟩) q_B_blind (va_recv hK (q_nowP (V := V) hP) (ci := 2) (q0 := 0) rfl rfl) (q_B_of (q_nowP (V := V) hP) hK hN) rfl hl.1 rfl (Nat.le_of_ble_eq_true rfl) dX4_key_27 (Nat.zero_le _) (Nat.zero_le _) ?_
      refine lv_if_ne (tgt := 36) hx hb dX4_key_30 (by decide) (fun c_30 => ?_) (fun c_30 => ?_)
      · skip
        have c_30 : (isOp (v_now V) r1) = true := bI_ne c_30
        refine lv_aload_n hx hb dX4_key_36 rfl (lv_at hl 0 rfl) ?_
        refine va_get (D := g.1) (ci := 3) (v := .ref (b 3)) (C := RX4) (T := TX4) (N := 5) hx hb hts hi_X4 hown hK hP 0 rfl rfl 1 (by decide) fl_19 (fun _ h9 => h9) rfl dX4_key_37 ?_
        refine lv_aload_n hx hb dX4_key_40 rfl (lv_at hl 0 rfl) ?_
        refine va_get (D := g.1) (ci := 3) (v := .ref (a 0 0)) (C := RX4) (T := TX4) (N := 5) hx hb hts hi_X4 hown hK hP 0 rfl rfl 0 (by decide) fl_12 (fun _ h9 => h9) rfl dX4_key_41 ?_
        refine q_VM (As := [.ref (a 0 0)]) (rest := []) (st2 := []) ⟨hx, hb, hml, hown, hts⟩ (c_X0_record l g a b V hI  (by first | omega | assumption) (by first | omega | assumption)) (cwV 1 hts gX4_key_X0_record rfl rfl rfl (by decide +kernel) ⟨Nat.le_of_ble_eq_true rfl, Nat.le_of_ble_eq_true rfl⟩) q_B_blind (va_recv hK hP (ci := 0) (q0 := 3) rfl rfl) (q_B_of hP hK hN) rfl hl.1 rfl (Nat.le_of_ble_eq_true rfl) dX4_key_44 (Nat.zero_le _) (Nat.zero_le _) hS (fun _ h => h) rfl rfl rfl (fun H locs hP _ hS _ => ?_)
        have hP : va_P g.1 vwCl (q_pqW g a b (v_rec V)) H := hP
        have hD : va_D (q_adr a b) (q_pqW g a b (v_rec V)) := q_D hI (fun _ h => h)
        refine lv_aload_n hx hb dX4_key_47 rfl (lv_at hl 0 rfl) ?_
        refine va_get (D := g.1) (ci := 3) (v := .ref (a 0 0)) (C := RX4) (T := TX4) (N := 5) hx hb hts hi_X4 hown hK hP 0 rfl rfl 0 (by decide) fl_12 (fun _ h9 => h9) rfl dX4_key_48 ?_
        refine va_get (D := g.1) (ci := 2) (v := .ref (a 0 6)) (C := RX3) (T := TX3) (N := 12) hx hb hts hi_X3 hown hK hP 7 rfl rfl 5 (by decide) fl_114 (fun _ h9 => h9) rfl dX4_key_51 ?_
        refine lv_iload_n hx hb dX4_key_54 rfl (lv_at hl 1 rfl) ?_
        refine lv_aload_n hx hb dX4_key_55 rfl (lv_at hl 0 rfl) ?_
        refine va_get (D := g.1) (ci := 3) (v := .ref (b 1)) (C := RX4) (T := TX4) (N := 5) hx hb hts hi_X4 hown hK hP 0 rfl rfl 2 (by decide) fl_26 (fun _ h9 => h9) rfl dX4_key_56 ?_
        refine q_V (As := []) (rest := [.int (nI r1), .ref (a 0 6)]) ⟨hx, hb, hml, hown, hts⟩ (c_X1_signs l g (b 1) (b 2) (v_pc V) (v_pl V)  ) (cwV 0 hts gX4_key_X1_signs rfl rfl rfl (by decide +kernel) ⟨Nat.le_of_ble_eq_true rfl, Nat.le_of_ble_eq_true rfl⟩) q_B_blind (va_recv hK (q_padP (V := v_rec V) hP) (ci := 1) (q0 := 0) rfl rfl) (q_B_of (q_padP (V := v_rec V) hP) hK hN) rfl hl.1 rfl (Nat.le_of_ble_eq_true rfl) dX4_key_59 (Nat.zero_le _) (Nat.zero_le _) ?_
        refine q_last (j := r1) hx hb hK hP hD hS 13 1 rfl rfl (by omega) (by decide) dX4_key_62 (fun H locs hP hS => ?_)
        have hP : va_P g.1 vwCl (q_pqW g a b (w_now (v_rec V) (u_key (v_now V) (vp_updL (s_key (v_now V)) r1 (sigs (v_pc V) 10))))) H := hP
        have hD : va_D (q_adr a b) (q_pqW g a b (w_now (v_rec V) (u_key (v_now V) (vp_updL (s_key (v_now V)) r1 (sigs (v_pc V) 10))))) := q_D hI (fun _ h => h)
        refine lv_aload_n hx hb dX4_key_63 rfl (lv_at hl 0 rfl) ?_
        refine va_get (D := g.1) (ci := 3) (v := .ref (b 1)) (C := RX4) (T := TX4) (N := 5) hx hb hts hi_X4 hown hK hP 0 rfl rfl 2 (by decide) fl_26 (fun _ h9 => h9) rfl dX4_key_64 ?_
        refine q_VM (As := []) (rest := []) (st2 := []) ⟨hx, hb, hml, hown, hts⟩ (c_X1_clear l g a b (w_now (v_rec V) (u_key (v_now V) (vp_updL (s_key (v_now V)) r1 (sigs (v_pc V) 10)))) hI  ) (cwV 0 hts gX4_key_X1_clear rfl rfl rfl (by decide +kernel) ⟨Nat.le_of_ble_eq_true rfl, Nat.le_of_ble_eq_true rfl⟩) q_B_blind (va_recv hK hP (ci := 1) (q0 := 1) rfl rfl) (q_B_of hP hK hN) rfl hl.1 rfl (Nat.le_of_ble_eq_true rfl) dX4_key_67 (Nat.zero_le _) (Nat.zero_le _) hS (fun _ h => h) rfl rfl rfl (fun H locs hP _ hS _ => ?_)
        have hP : va_P g.1 vwCl (q_pqW g a b (w_pl (w_now (v_rec V) (u_key (v_now V) (vp_updL (s_key (v_now V)) r1 (sigs (v_pc V) 10)))) 0)) H := hP
        have hD : va_D (q_adr a b) (q_pqW g a b (w_pl (w_now (v_rec V) (u_key (v_now V) (vp_updL (s_key (v_now V)) r1 (sigs (v_pc V) 10)))) 0)) := q_D hI (fun _ h => h)
        refine lv_aload_n hx hb dX4_key_70 rfl (lv_at hl 0 rfl) ?_
        refine va_get (D := g.1) (ci := 3) (v := .ref (a 0 0)) (C := RX4) (T := TX4) (N := 5) hx hb hts hi_X4 hown hK hP 0 rfl rfl 0 (by decide) fl_12 (fun _ h9 => h9) rfl dX4_key_71 ?_
        refine lv_iload_n hx hb dX4_key_74 rfl (lv_at hl 1 rfl) ?_
        refine q_V (As := [.int (nI r1)]) (rest := []) ⟨hx, hb, hml, hown, hts⟩ (c_X3_teamsWithSheet l g (a 0) (u_key (v_now V) (vp_updL (s_key (v_now V)) r1 (sigs (v_pc V) 10))) r1 (by first | omega | assumption) (by first | omega | assumption)) (cwV 1 hts gX4_key_X3_teamsWithSheet rfl rfl rfl (by decide +kernel) ⟨Nat.le_of_ble_eq_true rfl, Nat.le_of_ble_eq_true rfl⟩) q_B_blind (va_recv hK (q_nowP (V := w_pl (w_now (v_rec V) (u_key (v_now V) (vp_updL (s_key (v_now V)) r1 (sigs (v_pc V) 10)))) 0) hP) (ci := 2) (q0 := 0) rfl rfl) (q_B_of (q_nowP (V := w_pl (w_now (v_rec V) (u_key (v_now V) (vp_updL (s_key (v_now V)) r1 (sigs (v_pc V) 10)))) 0) hP) hK hN) rfl hl.1 rfl (Nat.le_of_ble_eq_true rfl) dX4_key_75 (Nat.zero_le _) (Nat.zero_le _) ?_
        refine q_S (As := [.int (q_or (fun t => hasS (u_key (v_now V) (vp_updL (s_key (v_now V)) r1 (sigs (v_pc V) 10))) t r1) (s_n (u_key (v_now V) (vp_updL (s_key (v_now V)) r1 (sigs (v_pc V) 10)))))]) (rest := []) ⟨hx, hb, hml, hown, hts⟩ (c_J6_bitCount_0f7a4 l (q_or (fun t => hasS (u_key (v_now V) (vp_updL (s_key (v_now V)) r1 (sigs (v_pc V) 10))) t r1) (s_n (u_key (v_now V) (vp_updL (s_key (v_now V)) r1 (sigs (v_pc V) 10))))) ) (va_cwS 1 hts gX4_key_J6_bitCount_0f7a4 rfl rfl rfl (by decide +kernel) ⟨Nat.le_of_ble_eq_true rfl, Nat.le_of_ble_eq_true rfl⟩) q_Blind_t (fun _ _ _ => trivial) rfl hl.1 rfl (Nat.le_of_ble_eq_true rfl) dX4_key_78 (Nat.zero_le _) (Nat.zero_le _) ?_
        exact q_miret hx hb hr hlk dX4_key_81 hP hS ((q_popN _ _ h1_).trans (by simp [keyR, keyE, cr1, c_4, c_16, c_30]; rfl)) (congrArg (q_pqW g a b) (by simp [keyR, keyV, keyE, keyS, cr1, c_4, c_16, c_30]))
      · skip
        have c_30 : (isOp (v_now V) r1) = false := bI_eq c_30
        refine lv_bipush (v := (-5)) hx hb dX4_key_33 (by decide) ?_
        exact q_miret hx hb hr hlk dX4_key_35 hP hS (by simp [keyR, keyV, keyE, keyS, cr1, c_4, c_16, c_30]) (congrArg (q_pqW g a b) (by simp [keyR, keyV, keyE, keyS, cr1, c_4, c_16, c_30]))
    · skip
      have c_16 : (tkyP (v_pc V) (v_pl V)) = false := bI_eq c_16
      refine lv_bipush (v := (-3)) hx hb dX4_key_19 (by decide) ?_
      exact q_miret hx hb hr hlk dX4_key_21 hP hS (by simp [keyR, keyV, keyE, keyS, cr1, c_4, c_16]) (congrArg (q_pqW g a b) (by simp [keyR, keyV, keyE, keyS, cr1, c_4, c_16]))
  · skip
    have c_4 : (isRd y) = false := bI_eq c_4
    refine lv_iconst (v := (-1)) hx hb dX4_key_7 (by decide) ?_
    exact q_miret hx hb hr hlk dX4_key_8 hP hS (by simp [keyR, keyV, keyE, keyS, c_4]) (congrArg (q_pqW g a b) (by simp [keyR, keyV, keyE, keyS, c_4]))

set_option maxHeartbeats 2000000 in
set_option maxRecDepth 100000 in
theorem c_X4_mark (l : Launch) (g : q_G) (a : Nat → Nat → Nat) (b : Nat → Nat) (V : q_CV) (hI : q_inj a b) (k : Int32) (x : Int32) (y : Int32) (z : Int32) (h1_ : s_n (v_now V) ≤ 10) (h2_ : v_nxt V < 6) (h3_ : v_hl V ≤ 6) : Met l yX4_mark wsX4_mark { frames := 3, cells := 0, slots := 0, locals := 82 } (va_Pc [.ref (b 0), .int k, .int x, .int y, .int z] (q_B g (q_pqW g a b V))) (q_QM g (q_adr a b) (q_pqW g a b (marV V k x y z)) (some (.int (marR V k x y z)))) 0 0 (q_adr a b) := by
  refine q_mm (cc := cX4_mark) (maxL := 5) (ret := (some .int)) (by decide) rfl (Nat.le_of_ble_eq_true rfl) ?_
  intro p e s m args below meth c ls hx hb hml hown hts hr hlk hnm hB hag hl
  obtain ⟨hP, hK, hN⟩ := hB
  have hS : va_S (q_adr a b) s.heap s.heap [] := va_S.rf
  have hP : va_P g.1 vwCl (q_pqW g a b V) s.heap := hP
  have hD : va_D (q_adr a b) (q_pqW g a b V) := q_D hI (fun _ h => h)
  have fl_12 := hts (.fieldLink RX4 12 "PubQuizzes" "now" "LPubQuizzes$State;") (by decide +kernel)
  have fl_19 := hts (.fieldLink RX4 19 "PubQuizzes" "history" "LPubQuizzes$History;") (by decide +kernel)
  have fl_123 := hts (.fieldLink RX4 123 "PubQuizzes$State" "marks" "[I") (by decide +kernel)
  have fl_126 := hts (.fieldLink RX4 126 "PubQuizzes$State" "markers" "[I") (by decide +kernel)
  have hi_X4 : ∀ w ∈ u_ws RX4 TX4 5, w ∈ wsX4_mark := by decide +kernel
  have hi_X3 : ∀ w ∈ u_ws RX3 TX3 12, w ∈ wsX4_mark := by decide +kernel
  have hl : lv_has ls 5 [(0, .ref (b 0)), (1, .int k), (2, .int x), (3, .int y), (4, .int z)] := hl
  refine lv_aload_n hx hb dX4_mark_0 rfl (lv_at hl 0 rfl) ?_
  refine va_get (D := g.1) (ci := 3) (v := .ref (a 0 0)) (C := RX4) (T := TX4) (N := 5) hx hb hts hi_X4 hown hK hP 0 rfl rfl 0 (by decide) fl_12 (fun _ h9 => h9) rfl dX4_mark_1 ?_
  refine lv_iload_n hx hb dX4_mark_4 rfl (lv_at hl 1 rfl) ?_
  refine q_V (As := [.int k]) (rest := []) ⟨hx, hb, hml, hown, hts⟩ (c_X3_isTeam l g (a 0) (v_now V) k ) (cwV 1 hts gX4_mark_X3_isTeam rfl rfl rfl (by decide +kernel) ⟨Nat.le_of_ble_eq_true rfl, Nat.le_of_ble_eq_true rfl⟩) q_B_blind (va_recv hK (q_nowP (V := V) hP) (ci := 2) (q0 := 0) rfl rfl) (q_B_of (q_nowP (V := V) hP) hK hN) rfl hl.1 rfl (Nat.le_of_ble_eq_true rfl) dX4_mark_5 (Nat.zero_le _) (Nat.zero_le _) ?_
  refine lv_if_eq (tgt := 29) hx hb dX4_mark_8 (by decide) (fun c_8 => ?_) (fun c_8 => ?_)
  · skip
    have c_8 : (isTm (v_now V) k) = false := bI_eq c_8
    refine lv_iconst (v := (-1)) hx hb dX4_mark_29 (by decide) ?_
    exact q_miret hx hb hr hlk dX4_mark_30 hP hS (by simp [marR, marV, marE, marS, c_8]) (congrArg (q_pqW g a b) (by simp [marR, marV, marE, marS, c_8]))
  · skip
    have c_8 : (isTm (v_now V) k) = true := bI_ne c_8
    obtain ⟨o1, ho1, ho1x, rfl⟩ := isTm_of h1_ c_8
    have co1 : tN (nI o1) = o1 := tN_n (by omega)
    refine lv_aload_n hx hb dX4_mark_11 rfl (lv_at hl 0 rfl) ?_
    refine va_get (D := g.1) (ci := 3) (v := .ref (a 0 0)) (C := RX4) (T := TX4) (N := 5) hx hb hts hi_X4 hown hK hP 0 rfl rfl 0 (by decide) fl_12 (fun _ h9 => h9) rfl dX4_mark_12 ?_
    refine lv_iload_n hx hb dX4_mark_15 rfl (lv_at hl 2 rfl) ?_
    refine q_V (As := [.int x]) (rest := []) ⟨hx, hb, hml, hown, hts⟩ (c_X3_isTeam l g (a 0) (v_now V) x ) (cwV 1 hts gX4_mark_X3_isTeam rfl rfl rfl (by decide +kernel) ⟨Nat.le_of_ble_eq_true rfl, Nat.le_of_ble_eq_true rfl⟩) q_B_blind (va_recv hK (q_nowP (V := V) hP) (ci := 2) (q0 := 0) rfl rfl) (q_B_of (q_nowP (V := V) hP) hK hN) rfl hl.1 rfl (Nat.le_of_ble_eq_true rfl) dX4_mark_16 (Nat.zero_le _) (Nat.zero_le _) ?_
    refine lv_if_eq (tgt := 29) hx hb dX4_mark_19 (by decide) (fun c_19 => ?_) (fun c_19 => ?_)
    · skip
      have c_19 : (isTm (v_now V) x) = false := bI_eq c_19
      refine lv_iconst (v := (-1)) hx hb dX4_mark_29 (by decide) ?_
      exact q_miret hx hb hr hlk dX4_mark_30 hP hS (by simp [marR, marV, marE, marS, co1, c_8, c_19]) (congrArg (q_pqW g a b) (by simp [marR, marV, marE, marS, co1, c_8, c_19]))
    · skip
      have c_19 : (isTm (v_now V) x) = true := bI_ne c_19
      obtain ⟨t1, ht1, ht1x, rfl⟩ := isTm_of h1_ c_19
      have ct1 : tN (nI t1) = t1 := tN_n (by omega)
      refine lv_iload_n hx hb dX4_mark_22 rfl (lv_at hl 3 rfl) ?_
      refine q_S (As := [.int y]) (rest := []) ⟨hx, hb, hml, hown, hts⟩ (c_X4_isRound l y ) (va_cwS 1 hts gX4_mark_X4_isRound rfl rfl rfl (by decide +kernel) ⟨Nat.le_of_ble_eq_true rfl, Nat.le_of_ble_eq_true rfl⟩) q_Blind_t (fun _ _ _ => trivial) rfl hl.1 rfl (Nat.le_of_ble_eq_true rfl) dX4_mark_23 (Nat.zero_le _) (Nat.zero_le _) ?_
      refine lv_if_ne (tgt := 31) hx hb dX4_mark_26 (by decide) (fun c_26 => ?_) (fun c_26 => ?_)
      · skip
        have c_26 : (isRd y) = true := bI_ne c_26
        obtain ⟨r1, hr1, rfl⟩ := isRd_of c_26
        have cr1 : tN (nI r1) = r1 := tN_n (by omega)
        refine lv_iload_n hx hb dX4_mark_31 rfl (lv_at hl 1 rfl) ?_
        refine lv_iload_n hx hb dX4_mark_32 rfl (lv_at hl 2 rfl) ?_
        refine lv_icmp_eq (tgt := 50) hx hb dX4_mark_33 (by decide) (fun c_33 => ?_) (fun c_33 => ?_)
        · skip
          refine lv_bipush (v := (-2)) hx hb dX4_mark_50 (by decide) ?_
          exact q_miret hx hb hr hlk dX4_mark_52 hP hS (by simp [marR, marV, marE, marS, co1, c_8, ct1, c_19, cr1, c_26, c_33]) (congrArg (q_pqW g a b) (by simp [marR, marV, marE, marS, co1, c_8, ct1, c_19, cr1, c_26, c_33]))
        · skip
          refine lv_iload hx hb dX4_mark_36 (lv_at hl 4 rfl) ?_
          refine lv_bipush (v := (-20)) hx hb dX4_mark_38 (by decide) ?_
          refine lv_icmp_lt (tgt := 50) hx hb dX4_mark_40 (by decide) (fun c_40 => ?_) (fun c_40 => ?_)
          · skip
            refine lv_bipush (v := (-2)) hx hb dX4_mark_50 (by decide) ?_
            exact q_miret hx hb hr hlk dX4_mark_52 hP hS (by simp [marR, marV, marE, marS, co1, c_8, ct1, c_19, cr1, c_26, c_33, c_40]) (congrArg (q_pqW g a b) (by simp [marR, marV, marE, marS, co1, c_8, ct1, c_19, cr1, c_26, c_33, c_40]))
          · skip
            refine lv_iload hx hb dX4_mark_43 (lv_at hl 4 rfl) ?_
            refine lv_bipush (v := 10) hx hb dX4_mark_45 (by decide) ?_
            refine lv_icmp_le (tgt := 53) hx hb dX4_mark_47 (by decide) (fun c_47 => ?_) (fun c_47 => ?_)
            · skip
              refine lv_aload_n hx hb dX4_mark_53 rfl (lv_at hl 0 rfl) ?_
              refine va_get (D := g.1) (ci := 3) (v := .ref (a 0 0)) (C := RX4) (T := TX4) (N := 5) hx hb hts hi_X4 hown hK hP 0 rfl rfl 0 (by decide) fl_12 (fun _ h9 => h9) rfl dX4_mark_54 ?_
              refine lv_iload_n hx hb dX4_mark_57 rfl (lv_at hl 3 rfl) ?_
              refine q_V (As := [.int (nI r1)]) (rest := []) ⟨hx, hb, hml, hown, hts⟩ (c_X3_isOpen l g (a 0) (v_now V) r1 (by first | omega | assumption)) (cwV 1 hts gX4_mark_X3_isOpen rfl rfl rfl (by decide +kernel) ⟨Nat.le_of_ble_eq_true rfl, Nat.le_of_ble_eq_true rfl⟩) q_B_blind (va_recv hK (q_nowP (V := V) hP) (ci := 2) (q0 := 0) rfl rfl) (q_B_of (q_nowP (V := V) hP) hK hN) rfl hl.1 rfl (Nat.le_of_ble_eq_true rfl) dX4_mark_58 (Nat.zero_le _) (Nat.zero_le _) ?_
              refine lv_if_ne (tgt := 88) hx hb dX4_mark_61 (by decide) (fun c_61 => ?_) (fun c_61 => ?_)
              · skip
                have c_61 : (isOp (v_now V) r1) = true := bI_ne c_61
                refine lv_bipush (v := (-5)) hx hb dX4_mark_88 (by decide) ?_
                exact q_miret hx hb hr hlk dX4_mark_90 hP hS (by simp [marR, marV, marE, marS, co1, c_8, ct1, c_19, cr1, c_26, c_33, c_40, c_47, c_61]) (congrArg (q_pqW g a b) (by simp [marR, marV, marE, marS, co1, c_8, ct1, c_19, cr1, c_26, c_33, c_40, c_47, c_61]))
              · skip
                have c_61 : (isOp (v_now V) r1) = false := bI_eq c_61
                refine lv_aload_n hx hb dX4_mark_64 rfl (lv_at hl 0 rfl) ?_
                refine va_get (D := g.1) (ci := 3) (v := .ref (a 0 0)) (C := RX4) (T := TX4) (N := 5) hx hb hts hi_X4 hown hK hP 0 rfl rfl 0 (by decide) fl_12 (fun _ h9 => h9) rfl dX4_mark_65 ?_
                refine lv_iload_n hx hb dX4_mark_68 rfl (lv_at hl 2 rfl) ?_
                refine lv_iload_n hx hb dX4_mark_69 rfl (lv_at hl 3 rfl) ?_
                refine q_V (As := [.int (nI t1), .int (nI r1)]) (rest := []) ⟨hx, hb, hml, hown, hts⟩ (c_X3_hasSheet l g (a 0) (v_now V) t1 r1 (by first | omega | assumption) (by first | omega | assumption)) (cwV 2 hts gX4_mark_X3_hasSheet rfl rfl rfl (by decide +kernel) ⟨Nat.le_of_ble_eq_true rfl, Nat.le_of_ble_eq_true rfl⟩) q_B_blind (va_recv hK (q_nowP (V := V) hP) (ci := 2) (q0 := 0) rfl rfl) (q_B_of (q_nowP (V := V) hP) hK hN) rfl hl.1 rfl (Nat.le_of_ble_eq_true rfl) dX4_mark_70 (Nat.zero_le _) (Nat.zero_le _) ?_
                refine lv_if_eq (tgt := 88) hx hb dX4_mark_73 (by decide) (fun c_73 => ?_) (fun c_73 => ?_)
                · skip
                  have c_73 : (hasS (v_now V) t1 r1) = false := bI_eq c_73
                  refine lv_bipush (v := (-5)) hx hb dX4_mark_88 (by decide) ?_
                  exact q_miret hx hb hr hlk dX4_mark_90 hP hS (by simp [marR, marV, marE, marS, co1, c_8, ct1, c_19, cr1, c_26, c_33, c_40, c_47, c_61, c_73]) (congrArg (q_pqW g a b) (by simp [marR, marV, marE, marS, co1, c_8, ct1, c_19, cr1, c_26, c_33, c_40, c_47, c_61, c_73]))
                · skip
                  have c_73 : (hasS (v_now V) t1 r1) = true := bI_ne c_73
                  refine lv_aload_n hx hb dX4_mark_76 rfl (lv_at hl 0 rfl) ?_
                  refine va_get (D := g.1) (ci := 3) (v := .ref (a 0 0)) (C := RX4) (T := TX4) (N := 5) hx hb hts hi_X4 hown hK hP 0 rfl rfl 0 (by decide) fl_12 (fun _ h9 => h9) rfl dX4_mark_77 ?_
                  refine lv_iload_n hx hb dX4_mark_80 rfl (lv_at hl 2 rfl) ?_
                  refine lv_iload_n hx hb dX4_mark_81 rfl (lv_at hl 3 rfl) ?_
                  refine q_V (As := [.int (nI t1), .int (nI r1)]) (rest := []) ⟨hx, hb, hml, hown, hts⟩ (c_X3_isTold l g (a 0) (v_now V) t1 r1 (by first | omega | assumption) (by first | omega | assumption)) (cwV 2 hts gX4_mark_X3_isTold rfl rfl rfl (by decide +kernel) ⟨Nat.le_of_ble_eq_true rfl, Nat.le_of_ble_eq_true rfl⟩) q_B_blind (va_recv hK (q_nowP (V := V) hP) (ci := 2) (q0 := 0) rfl rfl) (q_B_of (q_nowP (V := V) hP) hK hN) rfl hl.1 rfl (Nat.le_of_ble_eq_true rfl) dX4_mark_82 (Nat.zero_le _) (Nat.zero_le _) ?_
                  refine lv_if_eq (tgt := 91) hx hb dX4_mark_85 (by decide) (fun c_85 => ?_) (fun c_85 => ?_)
                  · skip
                    have c_85 : (tldS (v_now V) t1 r1) = false := bI_eq c_85
                    refine lv_aload_n hx hb dX4_mark_91 rfl (lv_at hl 0 rfl) ?_
                    refine va_get (D := g.1) (ci := 3) (v := .ref (b 3)) (C := RX4) (T := TX4) (N := 5) hx hb hts hi_X4 hown hK hP 0 rfl rfl 1 (by decide) fl_19 (fun _ h9 => h9) rfl dX4_mark_92 ?_
                    refine lv_aload_n hx hb dX4_mark_95 rfl (lv_at hl 0 rfl) ?_
                    refine va_get (D := g.1) (ci := 3) (v := .ref (a 0 0)) (C := RX4) (T := TX4) (N := 5) hx hb hts hi_X4 hown hK hP 0 rfl rfl 0 (by decide) fl_12 (fun _ h9 => h9) rfl dX4_mark_96 ?_
                    refine q_VM (As := [.ref (a 0 0)]) (rest := []) (st2 := []) ⟨hx, hb, hml, hown, hts⟩ (c_X0_record l g a b V hI  (by first | omega | assumption) (by first | omega | assumption)) (cwV 1 hts gX4_mark_X0_record rfl rfl rfl (by decide +kernel) ⟨Nat.le_of_ble_eq_true rfl, Nat.le_of_ble_eq_true rfl⟩) q_B_blind (va_recv hK hP (ci := 0) (q0 := 3) rfl rfl) (q_B_of hP hK hN) rfl hl.1 rfl (Nat.le_of_ble_eq_true rfl) dX4_mark_99 (Nat.zero_le _) (Nat.zero_le _) hS (fun _ h => h) rfl rfl rfl (fun H locs hP _ hS _ => ?_)
                    have hP : va_P g.1 vwCl (q_pqW g a b (v_rec V)) H := hP
                    have hD : va_D (q_adr a b) (q_pqW g a b (v_rec V)) := q_D hI (fun _ h => h)
                    refine lv_aload_n hx hb dX4_mark_102 rfl (lv_at hl 0 rfl) ?_
                    refine va_get (D := g.1) (ci := 3) (v := .ref (a 0 0)) (C := RX4) (T := TX4) (N := 5) hx hb hts hi_X4 hown hK hP 0 rfl rfl 0 (by decide) fl_12 (fun _ h9 => h9) rfl dX4_mark_103 ?_
                    refine va_get (D := g.1) (ci := 2) (v := .ref (a 0 8)) (C := RX3) (T := TX3) (N := 12) hx hb hts hi_X3 hown hK hP 7 rfl rfl 7 (by decide) fl_123 (fun _ h9 => h9) rfl dX4_mark_106 ?_
                    refine lv_iload_n hx hb dX4_mark_109 rfl (lv_at hl 2 rfl) ?_
                    refine lv_iload_n hx hb dX4_mark_110 rfl (lv_at hl 3 rfl) ?_
                    refine q_S (As := [.int (nI t1), .int (nI r1)]) (rest := [.ref (a 0 8)]) ⟨hx, hb, hml, hown, hts⟩ (c_X4_indexOf l t1 r1 ) (va_cwS 2 hts gX4_mark_X4_indexOf rfl rfl rfl (by decide +kernel) ⟨Nat.le_of_ble_eq_true rfl, Nat.le_of_ble_eq_true rfl⟩) q_Blind_t (fun _ _ _ => trivial) rfl hl.1 rfl (Nat.le_of_ble_eq_true rfl) dX4_mark_111 (Nat.zero_le _) (Nat.zero_le _) ?_
                    refine lv_iload hx hb dX4_mark_114 (lv_at hl 4 rfl) ?_
                    refine q_iast (j := (t1 * 8 + r1)) hx hb hK hP hD hS 15 0 rfl rfl (by omega) (by decide) dX4_mark_116 (fun H locs hP hS => ?_)
                    have hP : va_P g.1 vwCl (q_pqW g a b (w_now (v_rec V) (u_mar (v_now V) (upd (s_mar (v_now V)) (t1 * 8 + r1) z)))) H := hP
                    have hD : va_D (q_adr a b) (q_pqW g a b (w_now (v_rec V) (u_mar (v_now V) (upd (s_mar (v_now V)) (t1 * 8 + r1) z)))) := q_D hI (fun _ h => h)
                    refine lv_aload_n hx hb dX4_mark_117 rfl (lv_at hl 0 rfl) ?_
                    refine va_get (D := g.1) (ci := 3) (v := .ref (a 0 0)) (C := RX4) (T := TX4) (N := 5) hx hb hts hi_X4 hown hK hP 0 rfl rfl 0 (by decide) fl_12 (fun _ h9 => h9) rfl dX4_mark_118 ?_
                    refine va_get (D := g.1) (ci := 2) (v := .ref (a 0 9)) (C := RX3) (T := TX3) (N := 12) hx hb hts hi_X3 hown hK hP 7 rfl rfl 8 (by decide) fl_126 (fun _ h9 => h9) rfl dX4_mark_121 ?_
                    refine lv_iload_n hx hb dX4_mark_124 rfl (lv_at hl 2 rfl) ?_
                    refine lv_iload_n hx hb dX4_mark_125 rfl (lv_at hl 3 rfl) ?_
                    refine q_S (As := [.int (nI t1), .int (nI r1)]) (rest := [.ref (a 0 9)]) ⟨hx, hb, hml, hown, hts⟩ (c_X4_indexOf l t1 r1 ) (va_cwS 2 hts gX4_mark_X4_indexOf rfl rfl rfl (by decide +kernel) ⟨Nat.le_of_ble_eq_true rfl, Nat.le_of_ble_eq_true rfl⟩) q_Blind_t (fun _ _ _ => trivial) rfl hl.1 rfl (Nat.le_of_ble_eq_true rfl) dX4_mark_126 (Nat.zero_le _) (Nat.zero_le _) ?_
                    refine lv_iload_n hx hb dX4_mark_129 rfl (lv_at hl 1 rfl) ?_
                    refine q_iast (j := (t1 * 8 + r1)) hx hb hK hP hD hS 16 0 rfl rfl (by omega) (by decide) dX4_mark_130 (fun H locs hP hS => ?_)
                    have hP : va_P g.1 vwCl (q_pqW g a b (w_now (v_rec V) (u_mkr (u_mar (v_now V) (upd (s_mar (v_now V)) (t1 * 8 + r1) z)) (upd (s_mkr (v_now V)) (t1 * 8 + r1) (nI o1))))) H := hP
                    have hD : va_D (q_adr a b) (q_pqW g a b (w_now (v_rec V) (u_mkr (u_mar (v_now V) (upd (s_mar (v_now V)) (t1 * 8 + r1) z)) (upd (s_mkr (v_now V)) (t1 * 8 + r1) (nI o1))))) := q_D hI (fun _ h => h)
                    refine lv_iconst (v := 1) hx hb dX4_mark_131 (by decide) ?_
                    exact q_miret hx hb hr hlk dX4_mark_132 hP hS (by simp [marR, marV, marE, marS, co1, c_8, ct1, c_19, cr1, c_26, c_33, c_40, c_47, c_61, c_73, c_85]) (congrArg (q_pqW g a b) (by simp [marR, marV, marE, marS, co1, c_8, ct1, c_19, cr1, c_26, c_33, c_40, c_47, c_61, c_73, c_85]))
                  · skip
                    have c_85 : (tldS (v_now V) t1 r1) = true := bI_ne c_85
                    refine lv_bipush (v := (-5)) hx hb dX4_mark_88 (by decide) ?_
                    exact q_miret hx hb hr hlk dX4_mark_90 hP hS (by simp [marR, marV, marE, marS, co1, c_8, ct1, c_19, cr1, c_26, c_33, c_40, c_47, c_61, c_73, c_85]) (congrArg (q_pqW g a b) (by simp [marR, marV, marE, marS, co1, c_8, ct1, c_19, cr1, c_26, c_33, c_40, c_47, c_61, c_73, c_85]))
            · skip
              refine lv_bipush (v := (-2)) hx hb dX4_mark_50 (by decide) ?_
              exact q_miret hx hb hr hlk dX4_mark_52 hP hS (by simp [marR, marV, marE, marS, co1, c_8, ct1, c_19, cr1, c_26, c_33, c_40, c_47]) (congrArg (q_pqW g a b) (by simp [marR, marV, marE, marS, co1, c_8, ct1, c_19, cr1, c_26, c_33, c_40, c_47]))
      · skip
        have c_26 : (isRd y) = false := bI_eq c_26
        refine lv_iconst (v := (-1)) hx hb dX4_mark_29 (by decide) ?_
        exact q_miret hx hb hr hlk dX4_mark_30 hP hS (by simp [marR, marV, marE, marS, co1, c_8, ct1, c_19, c_26]) (congrArg (q_pqW g a b) (by simp [marR, marV, marE, marS, co1, c_8, ct1, c_19, c_26]))
