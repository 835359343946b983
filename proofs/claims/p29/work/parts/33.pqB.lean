theorem v_resE {V : q_CV} {s1 : Nat} (h : v_nxt V < 6) : v_copy (v_rec V) (s1 + 7) 0 = w_now (v_rec V) (v_sx V (s1 + 7)) := by
  unfold v_copy
  rw [if_pos rfl]
  have e : q_blk (v_rec V) (s1 + 7) = v_sx V (s1 + 7) := by
    unfold q_blk
    rw [if_neg (Nat.succ_ne_zero _)]
    show va_up (v_sx V) (v_nxt V + 1) (v_now V) (s1 + 7) = _
    unfold va_up
    rw [if_neg (by omega)]
  rw [e]

set_option maxHeartbeats 2000000 in
set_option maxRecDepth 100000 in
theorem c_X4_look (l : Launch) (g : q_G) (a : Nat → Nat → Nat) (b : Nat → Nat) (V : q_CV) (hI : q_inj a b) (x : Int32) (y : Int32) (h1_ : s_n (v_now V) ≤ 10) (h2_ : v_nxt V < 6) (h3_ : v_hl V ≤ 6) (h4_ : ∀ t r, t < 10 → r < 8 → tldS (v_now V) t r = true → ∃ m, m < s_n (v_now V) ∧ s_mkr (v_now V) (t * 8 + r) = nI m) : Met l yX4_look wsX4_look { frames := 4, cells := 0, slots := 0, locals := 87 } (va_Pc [.ref (b 0), .int x, .int y] (q_B g (q_pqW g a b V))) (q_QM g (q_adr a b) (q_pqW g a b (lokV V x y)) (some (.int (lokR V x y)))) 0 0 (q_adr a b) := by
  refine q_mm (cc := cX4_look) (maxL := 4) (ret := (some .int)) (by decide) rfl (Nat.le_of_ble_eq_true rfl) ?_
  intro p e s m args below meth c ls hx hb hml hown hts hr hlk hnm hB hag hl
  obtain ⟨hP, hK, hN⟩ := hB
  have hS : va_S (q_adr a b) s.heap s.heap [] := va_S.rf
  have hP : va_P g.1 vwCl (q_pqW g a b V) s.heap := hP
  have hD : va_D (q_adr a b) (q_pqW g a b V) := q_D hI (fun _ h => h)
  have fl_12 := hts (.fieldLink RX4 12 "PubQuizzes" "now" "LPubQuizzes$State;") (by decide +kernel)
  have fl_19 := hts (.fieldLink RX4 19 "PubQuizzes" "history" "LPubQuizzes$History;") (by decide +kernel)
  have fl_123 := hts (.fieldLink RX4 123 "PubQuizzes$State" "marks" "[I") (by decide +kernel)
  have fl_145 := hts (.fieldLink RX4 145 "PubQuizzes$State" "looked" "[I") (by decide +kernel)
  have hi_X4 : ∀ w ∈ u_ws RX4 TX4 5, w ∈ wsX4_look := by decide +kernel
  have hi_X3 : ∀ w ∈ u_ws RX3 TX3 12, w ∈ wsX4_look := by decide +kernel
  have hl : lv_has ls 4 [(0, .ref (b 0)), (1, .int x), (2, .int y)] := hl
  refine lv_aload_n hx hb dX4_look_0 rfl (lv_at hl 0 rfl) ?_
  refine va_get (D := g.1) (ci := 3) (v := .ref (a 0 0)) (C := RX4) (T := TX4) (N := 5) hx hb hts hi_X4 hown hK hP 0 rfl rfl 0 (by decide) fl_12 (fun _ h9 => h9) rfl dX4_look_1 ?_
  refine lv_iload_n hx hb dX4_look_4 rfl (lv_at hl 1 rfl) ?_
  refine q_V (As := [.int x]) (rest := []) ⟨hx, hb, hml, hown, hts⟩ (c_X3_isTeam l g (a 0) (v_now V) x ) (cwV 1 hts gX4_look_X3_isTeam rfl rfl rfl (by decide +kernel) ⟨Nat.le_of_ble_eq_true rfl, Nat.le_of_ble_eq_true rfl⟩) q_B_blind (va_recv hK (q_nowP (V := V) hP) (ci := 2) (q0 := 0) rfl rfl) (q_B_of (q_nowP (V := V) hP) hK hN) rfl hl.1 rfl (Nat.le_of_ble_eq_true rfl) dX4_look_5 (Nat.zero_le _) (Nat.zero_le _) ?_
  refine lv_if_eq (tgt := 18) hx hb dX4_look_8 (by decide) (fun c_8 => ?_) (fun c_8 => ?_)
  · skip
    have c_8 : (isTm (v_now V) x) = false := bI_eq c_8
    refine lv_iconst (v := (-1)) hx hb dX4_look_18 (by decide) ?_
    exact q_miret hx hb hr hlk dX4_look_19 hP hS (by simp [lokR, lokV, lokE, lokT, lokF, bI, c_8]) (congrArg (q_pqW g a b) (by simp [lokR, lokV, lokE, lokT, lokF, bI, c_8]))
  · skip
    have c_8 : (isTm (v_now V) x) = true := bI_ne c_8
    obtain ⟨t1, ht1, ht1x, rfl⟩ := isTm_of h1_ c_8
    have ct1 : tN (nI t1) = t1 := tN_n (by omega)
    refine lv_iload_n hx hb dX4_look_11 rfl (lv_at hl 2 rfl) ?_
    refine q_S (As := [.int y]) (rest := []) ⟨hx, hb, hml, hown, hts⟩ (c_X4_isRound l y ) (va_cwS 1 hts gX4_look_X4_isRound rfl rfl rfl (by decide +kernel) ⟨Nat.le_of_ble_eq_true rfl, Nat.le_of_ble_eq_true rfl⟩) q_Blind_t (fun _ _ _ => trivial) rfl hl.1 rfl (Nat.le_of_ble_eq_true rfl) dX4_look_12 (Nat.zero_le _) (Nat.zero_le _) ?_
    refine lv_if_ne (tgt := 20) hx hb dX4_look_15 (by decide) (fun c_15 => ?_) (fun c_15 => ?_)
    · skip
      have c_15 : (isRd y) = true := bI_ne c_15
      obtain ⟨r1, hr1, rfl⟩ := isRd_of c_15
      have cr1 : tN (nI r1) = r1 := tN_n (by omega)
      refine lv_aload_n hx hb dX4_look_20 rfl (lv_at hl 0 rfl) ?_
      refine va_get (D := g.1) (ci := 3) (v := .ref (a 0 0)) (C := RX4) (T := TX4) (N := 5) hx hb hts hi_X4 hown hK hP 0 rfl rfl 0 (by decide) fl_12 (fun _ h9 => h9) rfl dX4_look_21 ?_
      refine lv_iload_n hx hb dX4_look_24 rfl (lv_at hl 1 rfl) ?_
      refine lv_iload_n hx hb dX4_look_25 rfl (lv_at hl 2 rfl) ?_
      refine q_V (As := [.int (nI t1), .int (nI r1)]) (rest := []) ⟨hx, hb, hml, hown, hts⟩ (c_X3_isTold l g (a 0) (v_now V) t1 r1 (by first | omega | assumption) (by first | omega | assumption)) (cwV 2 hts gX4_look_X3_isTold rfl rfl rfl (by decide +kernel) ⟨Nat.le_of_ble_eq_true rfl, Nat.le_of_ble_eq_true rfl⟩) q_B_blind (va_recv hK (q_nowP (V := V) hP) (ci := 2) (q0 := 0) rfl rfl) (q_B_of (q_nowP (V := V) hP) hK hN) rfl hl.1 rfl (Nat.le_of_ble_eq_true rfl) dX4_look_26 (Nat.zero_le _) (Nat.zero_le _) ?_
      refine lv_if_eq (tgt := 44) hx hb dX4_look_29 (by decide) (fun c_29 => ?_) (fun c_29 => ?_)
      · skip
        have c_29 : (tldS (v_now V) t1 r1) = false := bI_eq c_29
        refine lv_bipush (v := (-5)) hx hb dX4_look_44 (by decide) ?_
        exact q_miret hx hb hr hlk dX4_look_46 hP hS (by simp [lokR, lokV, lokE, lokT, lokF, bI, ct1, c_8, cr1, c_15, c_29]) (congrArg (q_pqW g a b) (by simp [lokR, lokV, lokE, lokT, lokF, bI, ct1, c_8, cr1, c_15, c_29]))
      · skip
        have c_29 : (tldS (v_now V) t1 r1) = true := bI_ne c_29
        refine lv_aload_n hx hb dX4_look_32 rfl (lv_at hl 0 rfl) ?_
        refine va_get (D := g.1) (ci := 3) (v := .ref (a 0 0)) (C := RX4) (T := TX4) (N := 5) hx hb hts hi_X4 hown hK hP 0 rfl rfl 0 (by decide) fl_12 (fun _ h9 => h9) rfl dX4_look_33 ?_
        refine lv_iload_n hx hb dX4_look_36 rfl (lv_at hl 1 rfl) ?_
        refine lv_iload_n hx hb dX4_look_37 rfl (lv_at hl 2 rfl) ?_
        refine q_V (As := [.int (nI t1), .int (nI r1)]) (rest := []) ⟨hx, hb, hml, hown, hts⟩ (c_X3_isLooked l g (a 0) (v_now V) t1 r1 (by first | omega | assumption) (by first | omega | assumption)) (cwV 2 hts gX4_look_X3_isLooked rfl rfl rfl (by decide +kernel) ⟨Nat.le_of_ble_eq_true rfl, Nat.le_of_ble_eq_true rfl⟩) q_B_blind (va_recv hK (q_nowP (V := V) hP) (ci := 2) (q0 := 0) rfl rfl) (q_B_of (q_nowP (V := V) hP) hK hN) rfl hl.1 rfl (Nat.le_of_ble_eq_true rfl) dX4_look_38 (Nat.zero_le _) (Nat.zero_le _) ?_
        refine lv_if_eq (tgt := 47) hx hb dX4_look_41 (by decide) (fun c_41 => ?_) (fun c_41 => ?_)
        · skip
          have c_41 : (lokS (v_now V) t1 r1) = false := bI_eq c_41
          refine lv_aload_n hx hb dX4_look_47 rfl (lv_at hl 0 rfl) ?_
          refine va_get (D := g.1) (ci := 3) (v := .ref (b 3)) (C := RX4) (T := TX4) (N := 5) hx hb hts hi_X4 hown hK hP 0 rfl rfl 1 (by decide) fl_19 (fun _ h9 => h9) rfl dX4_look_48 ?_
          refine lv_aload_n hx hb dX4_look_51 rfl (lv_at hl 0 rfl) ?_
          refine va_get (D := g.1) (ci := 3) (v := .ref (a 0 0)) (C := RX4) (T := TX4) (N := 5) hx hb hts hi_X4 hown hK hP 0 rfl rfl 0 (by decide) fl_12 (fun _ h9 => h9) rfl dX4_look_52 ?_
          refine q_VM (As := [.ref (a 0 0)]) (rest := []) (st2 := []) ⟨hx, hb, hml, hown, hts⟩ (c_X0_record l g a b V hI  (by first | omega | assumption) (by first | omega | assumption)) (cwV 1 hts gX4_look_X0_record rfl rfl rfl (by decide +kernel) ⟨Nat.le_of_ble_eq_true rfl, Nat.le_of_ble_eq_true rfl⟩) q_B_blind (va_recv hK hP (ci := 0) (q0 := 3) rfl rfl) (q_B_of hP hK hN) rfl hl.1 rfl (Nat.le_of_ble_eq_true rfl) dX4_look_55 (Nat.zero_le _) (Nat.zero_le _) hS (fun _ h => h) rfl rfl rfl (fun H locs hP _ hS _ => ?_)
          have hP : va_P g.1 vwCl (q_pqW g a b (v_rec V)) H := hP
          have hD : va_D (q_adr a b) (q_pqW g a b (v_rec V)) := q_D hI (fun _ h => h)
          refine lv_aload_n hx hb dX4_look_58 rfl (lv_at hl 0 rfl) ?_
          refine va_get (D := g.1) (ci := 3) (v := .ref (a 0 0)) (C := RX4) (T := TX4) (N := 5) hx hb hts hi_X4 hown hK hP 0 rfl rfl 0 (by decide) fl_12 (fun _ h9 => h9) rfl dX4_look_59 ?_
          refine lv_iload_n hx hb dX4_look_62 rfl (lv_at hl 1 rfl) ?_
          refine lv_iload_n hx hb dX4_look_63 rfl (lv_at hl 2 rfl) ?_
          refine q_V (As := [.int (nI t1), .int (nI r1)]) (rest := []) ⟨hx, hb, hml, hown, hts⟩ (c_X3_isWrong l g (a 0) (v_now V) t1 r1 (by first | omega | assumption) (by first | omega | assumption)) (cwV 2 hts gX4_look_X3_isWrong rfl rfl rfl (by decide +kernel) ⟨Nat.le_of_ble_eq_true rfl, Nat.le_of_ble_eq_true rfl⟩) q_B_blind (va_recv hK (q_nowP (V := v_rec V) hP) (ci := 2) (q0 := 0) rfl rfl) (q_B_of (q_nowP (V := v_rec V) hP) hK hN) rfl hl.1 rfl (Nat.le_of_ble_eq_true rfl) dX4_look_64 (Nat.zero_le _) (Nat.zero_le _) ?_
          refine lv_istore_n (lv' := [(3, .int (bI (wroS (v_now V) t1 r1))), (0, .ref (b 0)), (1, .int (nI t1)), (2, .int (nI r1))]) hx hb dX4_look_67 rfl hl (by decide) rfl (fun ls hl => ?_)
          refine lv_iload_n hx hb dX4_look_68 rfl (lv_at hl 0 rfl) ?_
          refine lv_if_eq (tgt := 88) hx hb dX4_look_69 (by decide) (fun c_69 => ?_) (fun c_69 => ?_)
          · skip
            have c_69 : (wroS (v_now V) t1 r1) = false := bI_eq c_69
            refine lv_aload_n hx hb dX4_look_88 rfl (lv_at hl 1 rfl) ?_
            refine va_get (D := g.1) (ci := 3) (v := .ref (a 0 0)) (C := RX4) (T := TX4) (N := 5) hx hb hts hi_X4 hown hK hP 0 rfl rfl 0 (by decide) fl_12 (fun _ h9 => h9) rfl dX4_look_89 ?_
            refine va_get (D := g.1) (ci := 2) (v := .ref (a 0 8)) (C := RX3) (T := TX3) (N := 12) hx hb hts hi_X3 hown hK hP 7 rfl rfl 7 (by decide) fl_123 (fun _ h9 => h9) rfl dX4_look_92 ?_
            refine lv_iload_n hx hb dX4_look_95 rfl (lv_at hl 2 rfl) ?_
            refine lv_iload_n hx hb dX4_look_96 rfl (lv_at hl 3 rfl) ?_
            refine q_S (As := [.int (nI t1), .int (nI r1)]) (rest := [.ref (a 0 8)]) ⟨hx, hb, hml, hown, hts⟩ (c_X4_indexOf l t1 r1 ) (va_cwS 2 hts gX4_look_X4_indexOf rfl rfl rfl (by decide +kernel) ⟨Nat.le_of_ble_eq_true rfl, Nat.le_of_ble_eq_true rfl⟩) q_Blind_t (fun _ _ _ => trivial) rfl hl.1 rfl (Nat.le_of_ble_eq_true rfl) dX4_look_97 (Nat.zero_le _) (Nat.zero_le _) ?_
            refine lv_aload_n hx hb dX4_look_100 rfl (lv_at hl 1 rfl) ?_
            refine va_get (D := g.1) (ci := 3) (v := .ref (a 0 0)) (C := RX4) (T := TX4) (N := 5) hx hb hts hi_X4 hown hK hP 0 rfl rfl 0 (by decide) fl_12 (fun _ h9 => h9) rfl dX4_look_101 ?_
            refine lv_iload_n hx hb dX4_look_104 rfl (lv_at hl 2 rfl) ?_
            refine lv_iload_n hx hb dX4_look_105 rfl (lv_at hl 3 rfl) ?_
            refine q_V (As := [.int (nI t1), .int (nI r1)]) (rest := [.int (nI (t1 * 8 + r1)), .ref (a 0 8)]) ⟨hx, hb, hml, hown, hts⟩ (c_X3_trueMark l g (a 0) (v_now V) t1 r1 (by first | omega | assumption) (by first | omega | assumption)) (cwV 2 hts gX4_look_X3_trueMark rfl rfl rfl (by decide +kernel) ⟨Nat.le_of_ble_eq_true rfl, Nat.le_of_ble_eq_true rfl⟩) q_B_blind (va_recv hK (q_nowP (V := v_rec V) hP) (ci := 2) (q0 := 0) rfl rfl) (q_B_of (q_nowP (V := v_rec V) hP) hK hN) rfl hl.1 rfl (Nat.le_of_ble_eq_true rfl) dX4_look_106 (Nat.zero_le _) (Nat.zero_le _) ?_
            refine q_iast (j := (t1 * 8 + r1)) hx hb hK hP hD hS 15 0 rfl rfl (by omega) (by decide) dX4_look_109 (fun H locs hP hS => ?_)
            have hP : va_P g.1 vwCl (q_pqW g a b (w_now (v_rec V) (u_mar (v_now V) (upd (s_mar (v_now V)) (t1 * 8 + r1) (truM (v_now V) t1 r1))))) H := hP
            have hD : va_D (q_adr a b) (q_pqW g a b (w_now (v_rec V) (u_mar (v_now V) (upd (s_mar (v_now V)) (t1 * 8 + r1) (truM (v_now V) t1 r1))))) := q_D hI (fun _ h => h)
            refine lv_aload_n hx hb dX4_look_110 rfl (lv_at hl 1 rfl) ?_
            refine va_get (D := g.1) (ci := 3) (v := .ref (a 0 0)) (C := RX4) (T := TX4) (N := 5) hx hb hts hi_X4 hown hK hP 0 rfl rfl 0 (by decide) fl_12 (fun _ h9 => h9) rfl dX4_look_111 ?_
            refine va_get (D := g.1) (ci := 2) (v := .ref (a 0 10)) (C := RX3) (T := TX3) (N := 12) hx hb hts hi_X3 hown hK hP 7 rfl rfl 9 (by decide) fl_145 (fun _ h9 => h9) rfl dX4_look_114 ?_
            refine lv_iload_n hx hb dX4_look_117 rfl (lv_at hl 3 rfl) ?_
            refine lv_dup2_11 hx hb dX4_look_118 rfl rfl ?_
            refine q_iald (j := r1) hx hb hK hP 17 0 rfl rfl (by omega) (by decide) dX4_look_119 ?_
            refine lv_iconst (v := 1) hx hb dX4_look_120 (by decide) ?_
            refine lv_iload_n hx hb dX4_look_121 rfl (lv_at hl 2 rfl) ?_
            refine lv_ishl hx hb dX4_look_122 ?_
            refine lv_ior hx hb dX4_look_123 ?_
            refine q_iast (j := r1) hx hb hK hP hD hS 17 0 rfl rfl (by omega) (by decide) dX4_look_124 (fun H locs hP hS => ?_)
            have hP : va_P g.1 vwCl (q_pqW g a b (w_now (v_rec V) (u_loo (u_mar (v_now V) (upd (s_mar (v_now V)) (t1 * 8 + r1) (truM (v_now V) t1 r1))) (upd (s_loo (v_now V)) r1 ((s_loo (v_now V) r1) ||| (1 <<< ((nI t1) &&& 31))))))) H := hP
            have hD : va_D (q_adr a b) (q_pqW g a b (w_now (v_rec V) (u_loo (u_mar (v_now V) (upd (s_mar (v_now V)) (t1 * 8 + r1) (truM (v_now V) t1 r1))) (upd (s_loo (v_now V)) r1 ((s_loo (v_now V) r1) ||| (1 <<< ((nI t1) &&& 31))))))) := q_D hI (fun _ h => h)
            refine lv_iload_n hx hb dX4_look_125 rfl (lv_at hl 0 rfl) ?_
            refine lv_if_eq (tgt := 133) hx hb dX4_look_126 (by decide) (fun c_126 => ?_) (fun c_126 => ?_)
            · skip
              refine lv_iconst (v := 0) hx hb dX4_look_133 (by decide) ?_
              exact q_miret hx hb hr hlk dX4_look_134 hP hS (by simp [lokR, lokV, lokE, lokT, lokF, bI, ct1, c_8, cr1, c_15, c_29, c_41, c_69]) (congrArg (q_pqW g a b) (by first | (simp [lokV, lokE, lokT, lokF, ct1, c_8, cr1, c_15, c_29, c_41, c_69]; done) | (simp [lokV, lokE, lokT, lokF, ct1, c_8, cr1, c_15, c_29, c_41, c_69]; rfl)))
            · skip
              have c_126 : (wroS (v_now V) t1 r1) = true := bI_ne c_126
              exact absurd (c_69.symm.trans c_126) (by decide)
          · skip
            have c_69 : (wroS (v_now V) t1 r1) = true := bI_ne c_69
            obtain ⟨m1, hm1, em1⟩ := h4_ t1 r1 (by omega) (by omega) c_29
            have cm1 : tN (nI m1) = m1 := tN_n (by omega)
            refine lv_aload_n hx hb dX4_look_72 rfl (lv_at hl 1 rfl) ?_
            refine va_get (D := g.1) (ci := 3) (v := .ref (a 0 0)) (C := RX4) (T := TX4) (N := 5) hx hb hts hi_X4 hown hK hP 0 rfl rfl 0 (by decide) fl_12 (fun _ h9 => h9) rfl dX4_look_73 ?_
            refine lv_aload_n hx hb dX4_look_76 rfl (lv_at hl 1 rfl) ?_
            refine va_get (D := g.1) (ci := 3) (v := .ref (a 0 0)) (C := RX4) (T := TX4) (N := 5) hx hb hts hi_X4 hown hK hP 0 rfl rfl 0 (by decide) fl_12 (fun _ h9 => h9) rfl dX4_look_77 ?_
            refine lv_iload_n hx hb dX4_look_80 rfl (lv_at hl 2 rfl) ?_
            refine lv_iload_n hx hb dX4_look_81 rfl (lv_at hl 3 rfl) ?_
            refine q_V (As := [.int (nI t1), .int (nI r1)]) (rest := [.ref (a 0 0)]) ⟨hx, hb, hml, hown, hts⟩ (c_X3_markerOf l g (a 0) (v_now V) t1 r1 (by first | omega | assumption) (by first | omega | assumption)) (cwV 2 hts gX4_look_X3_markerOf rfl rfl rfl (by decide +kernel) ⟨Nat.le_of_ble_eq_true rfl, Nat.le_of_ble_eq_true rfl⟩) q_B_blind (va_recv hK (q_nowP (V := v_rec V) hP) (ci := 2) (q0 := 0) rfl rfl) (q_B_of (q_nowP (V := v_rec V) hP) hK hN) rfl hl.1 rfl (Nat.le_of_ble_eq_true rfl) dX4_look_82 (Nat.zero_le _) (Nat.zero_le _) ?_
            refine q_reI (show (s_mkr (v_now V) (t1 * 8 + r1) : Int32) = nI m1 from em1) ?_
            refine q_VM (As := [.int (nI m1)]) (rest := []) (st2 := []) ⟨hx, hb, hml, hown, hts⟩ (c_X3_addFine l g a b (v_rec V) hI m1 (by first | omega | assumption) (by first | omega | assumption)) (cwV 1 hts gX4_look_X3_addFine rfl rfl rfl (by decide +kernel) ⟨Nat.le_of_ble_eq_true rfl, Nat.le_of_ble_eq_true rfl⟩) q_B_blind (va_recv hK hP (ci := 2) (q0 := 7) rfl rfl) (q_B_of hP hK hN) rfl hl.1 rfl (Nat.le_of_ble_eq_true rfl) dX4_look_85 (Nat.zero_le _) (Nat.zero_le _) hS (fun _ h => h) rfl rfl rfl (fun H locs hP _ hS _ => ?_)
            have hP : va_P g.1 vwCl (q_pqW g a b (v_fin (v_rec V) m1)) H := hP
            have hD : va_D (q_adr a b) (q_pqW g a b (v_fin (v_rec V) m1)) := q_D hI (fun _ h => h)
            refine lv_aload_n hx hb dX4_look_88 rfl (lv_at hl 1 rfl) ?_
            refine va_get (D := g.1) (ci := 3) (v := .ref (a 0 0)) (C := RX4) (T := TX4) (N := 5) hx hb hts hi_X4 hown hK hP 0 rfl rfl 0 (by decide) fl_12 (fun _ h9 => h9) rfl dX4_look_89 ?_
            refine va_get (D := g.1) (ci := 2) (v := .ref (a 0 8)) (C := RX3) (T := TX3) (N := 12) hx hb hts hi_X3 hown hK hP 7 rfl rfl 7 (by decide) fl_123 (fun _ h9 => h9) rfl dX4_look_92 ?_
            refine lv_iload_n hx hb dX4_look_95 rfl (lv_at hl 2 rfl) ?_
            refine lv_iload_n hx hb dX4_look_96 rfl (lv_at hl 3 rfl) ?_
            refine q_S (As := [.int (nI t1), .int (nI r1)]) (rest := [.ref (a 0 8)]) ⟨hx, hb, hml, hown, hts⟩ (c_X4_indexOf l t1 r1 ) (va_cwS 2 hts gX4_look_X4_indexOf rfl rfl rfl (by decide +kernel) ⟨Nat.le_of_ble_eq_true rfl, Nat.le_of_ble_eq_true rfl⟩) q_Blind_t (fun _ _ _ => trivial) rfl hl.1 rfl (Nat.le_of_ble_eq_true rfl) dX4_look_97 (Nat.zero_le _) (Nat.zero_le _) ?_
            refine lv_aload_n hx hb dX4_look_100 rfl (lv_at hl 1 rfl) ?_
            refine va_get (D := g.1) (ci := 3) (v := .ref (a 0 0)) (C := RX4) (T := TX4) (N := 5) hx hb hts hi_X4 hown hK hP 0 rfl rfl 0 (by decide) fl_12 (fun _ h9 => h9) rfl dX4_look_101 ?_
            refine lv_iload_n hx hb dX4_look_104 rfl (lv_at hl 2 rfl) ?_
            refine lv_iload_n hx hb dX4_look_105 rfl (lv_at hl 3 rfl) ?_
            refine q_V (As := [.int (nI t1), .int (nI r1)]) (rest := [.int (nI (t1 * 8 + r1)), .ref (a 0 8)]) ⟨hx, hb, hml, hown, hts⟩ (c_X3_trueMark l g (a 0) (u_fin (v_now (v_rec V)) (upd (s_fin (v_now (v_rec V))) m1 (s_fin (v_now (v_rec V)) m1 + 1))) t1 r1 (by first | omega | assumption) (by first | omega | assumption)) (cwV 2 hts gX4_look_X3_trueMark rfl rfl rfl (by decide +kernel) ⟨Nat.le_of_ble_eq_true rfl, Nat.le_of_ble_eq_true rfl⟩) q_B_blind (va_recv hK (q_nowP (V := v_fin (v_rec V) m1) hP) (ci := 2) (q0 := 0) rfl rfl) (q_B_of (q_nowP (V := v_fin (v_rec V) m1) hP) hK hN) rfl hl.1 rfl (Nat.le_of_ble_eq_true rfl) dX4_look_106 (Nat.zero_le _) (Nat.zero_le _) ?_
            refine q_iast (j := (t1 * 8 + r1)) hx hb hK hP hD hS 15 0 rfl rfl (by omega) (by decide) dX4_look_109 (fun H locs hP hS => ?_)
            have hP : va_P g.1 vwCl (q_pqW g a b (w_now (v_fin (v_rec V) m1) (u_mar (u_fin (v_now (v_rec V)) (upd (s_fin (v_now (v_rec V))) m1 (s_fin (v_now (v_rec V)) m1 + 1))) (upd (s_mar (v_now (v_rec V))) (t1 * 8 + r1) (truM (u_fin (v_now (v_rec V)) (upd (s_fin (v_now (v_rec V))) m1 (s_fin (v_now (v_rec V)) m1 + 1))) t1 r1))))) H := hP
            have hD : va_D (q_adr a b) (q_pqW g a b (w_now (v_fin (v_rec V) m1) (u_mar (u_fin (v_now (v_rec V)) (upd (s_fin (v_now (v_rec V))) m1 (s_fin (v_now (v_rec V)) m1 + 1))) (upd (s_mar (v_now (v_rec V))) (t1 * 8 + r1) (truM (u_fin (v_now (v_rec V)) (upd (s_fin (v_now (v_rec V))) m1 (s_fin (v_now (v_rec V)) m1 + 1))) t1 r1))))) := q_D hI (fun _ h => h)
            refine lv_aload_n hx hb dX4_look_110 rfl (lv_at hl 1 rfl) ?_
            refine va_get (D := g.1) (ci := 3) (v := .ref (a 0 0)) (C := RX4) (T := TX4) (N := 5) hx hb hts hi_X4 hown hK hP 0 rfl rfl 0 (by decide) fl_12 (fun _ h9 => h9) rfl dX4_look_111 ?_
            refine va_get (D := g.1) (ci := 2) (v := .ref (a 0 10)) (C := RX3) (T := TX3) (N := 12) hx hb hts hi_X3 hown hK hP 7 rfl rfl 9 (by decide) fl_145 (fun _ h9 => h9) rfl dX4_look_114 ?_
            refine lv_iload_n hx hb dX4_look_117 rfl (lv_at hl 3 rfl) ?_
            refine lv_dup2_11 hx hb dX4_look_118 rfl rfl ?_
            refine q_iald (j := r1) hx hb hK hP 17 0 rfl rfl (by omega) (by decide) dX4_look_119 ?_
            refine lv_iconst (v := 1) hx hb dX4_look_120 (by decide) ?_
            refine lv_iload_n hx hb dX4_look_121 rfl (lv_at hl 2 rfl) ?_
            refine lv_ishl hx hb dX4_look_122 ?_
            refine lv_ior hx hb dX4_look_123 ?_
            refine q_iast (j := r1) hx hb hK hP hD hS 17 0 rfl rfl (by omega) (by decide) dX4_look_124 (fun H locs hP hS => ?_)
            have hP : va_P g.1 vwCl (q_pqW g a b (w_now (v_fin (v_rec V) m1) (u_loo (u_mar (u_fin (v_now (v_rec V)) (upd (s_fin (v_now (v_rec V))) m1 (s_fin (v_now (v_rec V)) m1 + 1))) (upd (s_mar (v_now (v_rec V))) (t1 * 8 + r1) (truM (u_fin (v_now (v_rec V)) (upd (s_fin (v_now (v_rec V))) m1 (s_fin (v_now (v_rec V)) m1 + 1))) t1 r1))) (upd (s_loo (v_now (v_rec V))) r1 ((s_loo (v_now (v_rec V)) r1) ||| (1 <<< ((nI t1) &&& 31))))))) H := hP
            have hD : va_D (q_adr a b) (q_pqW g a b (w_now (v_fin (v_rec V) m1) (u_loo (u_mar (u_fin (v_now (v_rec V)) (upd (s_fin (v_now (v_rec V))) m1 (s_fin (v_now (v_rec V)) m1 + 1))) (upd (s_mar (v_now (v_rec V))) (t1 * 8 + r1) (truM (u_fin (v_now (v_rec V)) (upd (s_fin (v_now (v_rec V))) m1 (s_fin (v_now (v_rec V)) m1 + 1))) t1 r1))) (upd (s_loo (v_now (v_rec V))) r1 ((s_loo (v_now (v_rec V)) r1) ||| (1 <<< ((nI t1) &&& 31))))))) := q_D hI (fun _ h => h)
            refine lv_iload_n hx hb dX4_look_125 rfl (lv_at hl 0 rfl) ?_
            refine lv_if_eq (tgt := 133) hx hb dX4_look_126 (by decide) (fun c_126 => ?_) (fun c_126 => ?_)
            · skip
              have c_126 : (wroS (v_now V) t1 r1) = false := bI_eq c_126
              exact absurd (c_69.symm.trans c_126) (by decide)
            · skip
              refine lv_iconst (v := 1) hx hb dX4_look_129 (by decide) ?_
              refine lv_goto (tgt := 134) hx hb dX4_look_130 (by decide) ?_
              exact q_miret hx hb hr hlk dX4_look_134 hP hS (by simp [lokR, lokV, lokE, lokT, lokF, bI, ct1, c_8, cr1, c_15, c_29, c_41, em1, cm1, c_69]) (congrArg (q_pqW g a b) (by first | (simp [lokV, lokE, lokT, lokF, ct1, c_8, cr1, c_15, c_29, c_41, em1, cm1, c_69]; done) | (simp [lokV, lokE, lokT, lokF, ct1, c_8, cr1, c_15, c_29, c_41, em1, cm1, c_69]; rfl)))
        · skip
          have c_41 : (lokS (v_now V) t1 r1) = true := bI_ne c_41
          refine lv_bipush (v := (-5)) hx hb dX4_look_44 (by decide) ?_
          exact q_miret hx hb hr hlk dX4_look_46 hP hS (by simp [lokR, lokV, lokE, lokT, lokF, bI, ct1, c_8, cr1, c_15, c_29, c_41]) (congrArg (q_pqW g a b) (by simp [lokR, lokV, lokE, lokT, lokF, bI, ct1, c_8, cr1, c_15, c_29, c_41]))
    · skip
      have c_15 : (isRd y) = false := bI_eq c_15
      refine lv_iconst (v := (-1)) hx hb dX4_look_18 (by decide) ?_
      exact q_miret hx hb hr hlk dX4_look_19 hP hS (by simp [lokR, lokV, lokE, lokT, lokF, bI, ct1, c_8, c_15]) (congrArg (q_pqW g a b) (by simp [lokR, lokV, lokE, lokT, lokF, bI, ct1, c_8, c_15]))

set_option maxHeartbeats 2000000 in
set_option maxRecDepth 100000 in
theorem c_X4_guess (l : Launch) (g : q_G) (a : Nat → Nat → Nat) (b : Nat → Nat) (V : q_CV) (hI : q_inj a b) (x : Int32) (y : Int32) (h1_ : s_n (v_now V) ≤ 10) (h2_ : v_nxt V < 6) (h3_ : v_hl V ≤ 6) : Met l yX4_guess wsX4_guess { frames := 3, cells := 0, slots := 0, locals := 82 } (va_Pc [.ref (b 0), .int x, .int y] (q_B g (q_pqW g a b V))) (q_QM g (q_adr a b) (q_pqW g a b (gueV V x y)) (some (.int (gueR V x y)))) 0 0 (q_adr a b) := by
  refine q_mm (cc := cX4_guess) (maxL := 4) (ret := (some .int)) (by decide) rfl (Nat.le_of_ble_eq_true rfl) ?_
  intro p e s m args below meth c ls hx hb hml hown hts hr hlk hnm hB hag hl
  obtain ⟨hP, hK, hN⟩ := hB
  have hS : va_S (q_adr a b) s.heap s.heap [] := va_S.rf
  have hP : va_P g.1 vwCl (q_pqW g a b V) s.heap := hP
  have hD : va_D (q_adr a b) (q_pqW g a b V) := q_D hI (fun _ h => h)
  have fl_12 := hts (.fieldLink RX4 12 "PubQuizzes" "now" "LPubQuizzes$State;") (by decide +kernel)
  have fl_19 := hts (.fieldLink RX4 19 "PubQuizzes" "history" "LPubQuizzes$History;") (by decide +kernel)
  have fl_148 := hts (.fieldLink RX4 148 "PubQuizzes$State" "truth" "I") (by decide +kernel)
  have fl_151 := hts (.fieldLink RX4 151 "PubQuizzes$State" "guesses" "[I") (by decide +kernel)
  have hi_X4 : ∀ w ∈ u_ws RX4 TX4 5, w ∈ wsX4_guess := by decide +kernel
  have hi_X3 : ∀ w ∈ u_ws RX3 TX3 12, w ∈ wsX4_guess := by decide +kernel
  have hl : lv_has ls 4 [(0, .ref (b 0)), (1, .int x), (2, .int y)] := hl
  refine lv_aload_n hx hb dX4_guess_0 rfl (lv_at hl 0 rfl) ?_
  refine va_get (D := g.1) (ci := 3) (v := .ref (a 0 0)) (C := RX4) (T := TX4) (N := 5) hx hb hts hi_X4 hown hK hP 0 rfl rfl 0 (by decide) fl_12 (fun _ h9 => h9) rfl dX4_guess_1 ?_
  refine lv_iload_n hx hb dX4_guess_4 rfl (lv_at hl 1 rfl) ?_
  refine q_V (As := [.int x]) (rest := []) ⟨hx, hb, hml, hown, hts⟩ (c_X3_isTeam l g (a 0) (v_now V) x ) (cwV 1 hts gX4_guess_X3_isTeam rfl rfl rfl (by decide +kernel) ⟨Nat.le_of_ble_eq_true rfl, Nat.le_of_ble_eq_true rfl⟩) q_B_blind (va_recv hK (q_nowP (V := V) hP) (ci := 2) (q0 := 0) rfl rfl) (q_B_of (q_nowP (V := V) hP) hK hN) rfl hl.1 rfl (Nat.le_of_ble_eq_true rfl) dX4_guess_5 (Nat.zero_le _) (Nat.zero_le _) ?_
  refine lv_if_ne (tgt := 13) hx hb dX4_guess_8 (by decide) (fun c_8 => ?_) (fun c_8 => ?_)
  · skip
    have c_8 : (isTm (v_now V) x) = true := bI_ne c_8
    obtain ⟨t1, ht1, ht1x, rfl⟩ := isTm_of h1_ c_8
    have ct1 : tN (nI t1) = t1 := tN_n (by omega)
    refine lv_iload_n hx hb dX4_guess_13 rfl (lv_at hl 2 rfl) ?_
    refine lv_if_lt (tgt := 24) hx hb dX4_guess_14 (by decide) (fun c_14 => ?_) (fun c_14 => ?_)
    · skip
      refine lv_bipush (v := (-2)) hx hb dX4_guess_24 (by decide) ?_
      exact q_miret hx hb hr hlk dX4_guess_26 hP hS (by simp [gueR, gueV, gueE, ct1, c_8, c_14]) (congrArg (q_pqW g a b) (by simp [gueR, gueV, gueE, ct1, c_8, c_14]))
    · skip
      refine lv_iload_n hx hb dX4_guess_17 rfl (lv_at hl 2 rfl) ?_
      refine lv_sipush (v := 9999) hx hb dX4_guess_18 (by decide) ?_
      refine lv_icmp_le (tgt := 27) hx hb dX4_guess_21 (by decide) (fun c_21 => ?_) (fun c_21 => ?_)
      · skip
        refine lv_aload_n hx hb dX4_guess_27 rfl (lv_at hl 0 rfl) ?_
        refine va_get (D := g.1) (ci := 3) (v := .ref (a 0 0)) (C := RX4) (T := TX4) (N := 5) hx hb hts hi_X4 hown hK hP 0 rfl rfl 0 (by decide) fl_12 (fun _ h9 => h9) rfl dX4_guess_28 ?_
        refine va_get (D := g.1) (ci := 2) (v := .int (s_tru (v_now V))) (C := RX3) (T := TX3) (N := 12) hx hb hts hi_X3 hown hK hP 7 rfl rfl 11 (by decide) fl_148 (fun _ h9 => h9) rfl dX4_guess_31 ?_
        refine lv_bipush (v := (-6)) hx hb dX4_guess_34 (by decide) ?_
        refine lv_icmp_eq (tgt := 42) hx hb dX4_guess_36 (by decide) (fun c_36 => ?_) (fun c_36 => ?_)
        · skip
          refine lv_aload_n hx hb dX4_guess_42 rfl (lv_at hl 0 rfl) ?_
          refine va_get (D := g.1) (ci := 3) (v := .ref (b 3)) (C := RX4) (T := TX4) (N := 5) hx hb hts hi_X4 hown hK hP 0 rfl rfl 1 (by decide) fl_19 (fun _ h9 => h9) rfl dX4_guess_43 ?_
          refine lv_aload_n hx hb dX4_guess_46 rfl (lv_at hl 0 rfl) ?_
          refine va_get (D := g.1) (ci := 3) (v := .ref (a 0 0)) (C := RX4) (T := TX4) (N := 5) hx hb hts hi_X4 hown hK hP 0 rfl rfl 0 (by decide) fl_12 (fun _ h9 => h9) rfl dX4_guess_47 ?_
          refine q_VM (As := [.ref (a 0 0)]) (rest := []) (st2 := []) ⟨hx, hb, hml, hown, hts⟩ (c_X0_record l g a b V hI  (by first | omega | assumption) (by first | omega | assumption)) (cwV 1 hts gX4_guess_X0_record rfl rfl rfl (by decide +kernel) ⟨Nat.le_of_ble_eq_true rfl, Nat.le_of_ble_eq_true rfl⟩) q_B_blind (va_recv hK hP (ci := 0) (q0 := 3) rfl rfl) (q_B_of hP hK hN) rfl hl.1 rfl (Nat.le_of_ble_eq_true rfl) dX4_guess_50 (Nat.zero_le _) (Nat.zero_le _) hS (fun _ h => h) rfl rfl rfl (fun H locs hP _ hS _ => ?_)
          have hP : va_P g.1 vwCl (q_pqW g a b (v_rec V)) H := hP
          have hD : va_D (q_adr a b) (q_pqW g a b (v_rec V)) := q_D hI (fun _ h => h)
          refine lv_aload_n hx hb dX4_guess_53 rfl (lv_at hl 0 rfl) ?_
          refine va_get (D := g.1) (ci := 3) (v := .ref (a 0 0)) (C := RX4) (T := TX4) (N := 5) hx hb hts hi_X4 hown hK hP 0 rfl rfl 0 (by decide) fl_12 (fun _ h9 => h9) rfl dX4_guess_54 ?_
          refine va_get (D := g.1) (ci := 2) (v := .ref (a 0 5)) (C := RX3) (T := TX3) (N := 12) hx hb hts hi_X3 hown hK hP 7 rfl rfl 4 (by decide) fl_151 (fun _ h9 => h9) rfl dX4_guess_57 ?_
          refine lv_iload_n hx hb dX4_guess_60 rfl (lv_at hl 1 rfl) ?_
          refine q_iald (j := t1) hx hb hK hP 12 0 rfl rfl (by omega) (by decide) dX4_guess_61 ?_
          refine lv_istore_n (lv' := [(3, .int (s_gue (v_now V) t1)), (0, .ref (b 0)), (1, .int (nI t1)), (2, .int y)]) hx hb dX4_guess_62 rfl hl (by decide) rfl (fun ls hl => ?_)
          refine lv_aload_n hx hb dX4_guess_63 rfl (lv_at hl 1 rfl) ?_
          refine va_get (D := g.1) (ci := 3) (v := .ref (a 0 0)) (C := RX4) (T := TX4) (N := 5) hx hb hts hi_X4 hown hK hP 0 rfl rfl 0 (by decide) fl_12 (fun _ h9 => h9) rfl dX4_guess_64 ?_
          refine va_get (D := g.1) (ci := 2) (v := .ref (a 0 5)) (C := RX3) (T := TX3) (N := 12) hx hb hts hi_X3 hown hK hP 7 rfl rfl 4 (by decide) fl_151 (fun _ h9 => h9) rfl dX4_guess_67 ?_
          refine lv_iload_n hx hb dX4_guess_70 rfl (lv_at hl 2 rfl) ?_
          refine lv_iload_n hx hb dX4_guess_71 rfl (lv_at hl 3 rfl) ?_
          refine q_iast (j := t1) hx hb hK hP hD hS 12 0 rfl rfl (by omega) (by decide) dX4_guess_72 (fun H locs hP hS => ?_)
          have hP : va_P g.1 vwCl (q_pqW g a b (w_now (v_rec V) (u_gue (v_now V) (upd (s_gue (v_now V)) t1 y)))) H := hP
          have hD : va_D (q_adr a b) (q_pqW g a b (w_now (v_rec V) (u_gue (v_now V) (upd (s_gue (v_now V)) t1 y)))) := q_D hI (fun _ h => h)
          refine lv_iload_n hx hb dX4_guess_73 rfl (lv_at hl 0 rfl) ?_
          exact q_miret hx hb hr hlk dX4_guess_74 hP hS (by simp [gueR, gueV, gueE, ct1, c_8, c_14, c_21, c_36]) (congrArg (q_pqW g a b) (by simp [gueR, gueV, gueE, ct1, c_8, c_14, c_21, c_36]))
        · skip
          refine lv_bipush (v := (-5)) hx hb dX4_guess_39 (by decide) ?_
          exact q_miret hx hb hr hlk dX4_guess_41 hP hS (by simp [gueR, gueV, gueE, ct1, c_8, c_14, c_21, c_36]) (congrArg (q_pqW g a b) (by simp [gueR, gueV, gueE, ct1, c_8, c_14, c_21, c_36]))
      · skip
        refine lv_bipush (v := (-2)) hx hb dX4_guess_24 (by decide) ?_
        exact q_miret hx hb hr hlk dX4_guess_26 hP hS (by simp [gueR, gueV, gueE, ct1, c_8, c_14, c_21]) (congrArg (q_pqW g a b) (by simp [gueR, gueV, gueE, ct1, c_8, c_14, c_21]))
  · skip
    have c_8 : (isTm (v_now V) x) = false := bI_eq c_8
    refine lv_iconst (v := (-1)) hx hb dX4_guess_11 (by decide) ?_
    exact q_miret hx hb hr hlk dX4_guess_12 hP hS (by simp [gueR, gueV, gueE, c_8]) (congrArg (q_pqW g a b) (by simp [gueR, gueV, gueE, c_8]))

set_option maxHeartbeats 2000000 in
set_option maxRecDepth 100000 in
theorem c_X4_truth (l : Launch) (g : q_G) (a : Nat → Nat → Nat) (b : Nat → Nat) (V : q_CV) (hI : q_inj a b) (y : Int32) (h1_ : s_n (v_now V) ≤ 10) (h2_ : v_nxt V < 6) (h3_ : v_hl V ≤ 6) : Met l yX4_truth wsX4_truth { frames := 3, cells := 0, slots := 0, locals := 82 } (va_Pc [.ref (b 0), .int y] (q_B g (q_pqW g a b V))) (q_QM g (q_adr a b) (q_pqW g a b (truV V y)) (some (.int (truR V y)))) 0 0 (q_adr a b) := by
  refine q_mm (cc := cX4_truth) (maxL := 2) (ret := (some .int)) (by decide) rfl (Nat.le_of_ble_eq_true rfl) ?_
  intro p e s m args below meth c ls hx hb hml hown hts hr hlk hnm hB hag hl
  obtain ⟨hP, hK, hN⟩ := hB
  have hS : va_S (q_adr a b) s.heap s.heap [] := va_S.rf
  have hP : va_P g.1 vwCl (q_pqW g a b V) s.heap := hP
  have hD : va_D (q_adr a b) (q_pqW g a b V) := q_D hI (fun _ h => h)
  have fl_12 := hts (.fieldLink RX4 12 "PubQuizzes" "now" "LPubQuizzes$State;") (by decide +kernel)
  have fl_19 := hts (.fieldLink RX4 19 "PubQuizzes" "history" "LPubQuizzes$History;") (by decide +kernel)
  have fl_148 := hts (.fieldLink RX4 148 "PubQuizzes$State" "truth" "I") (by decide +kernel)
  have hi_X4 : ∀ w ∈ u_ws RX4 TX4 5, w ∈ wsX4_truth := by decide +kernel
  have hi_X3 : ∀ w ∈ u_ws RX3 TX3 12, w ∈ wsX4_truth := by decide +kernel
  have hl : lv_has ls 2 [(0, .ref (b 0)), (1, .int y)] := hl
  refine lv_iload_n hx hb dX4_truth_0 rfl (lv_at hl 1 rfl) ?_
  refine lv_if_lt (tgt := 11) hx hb dX4_truth_1 (by decide) (fun c_1 => ?_) (fun c_1 => ?_)
  · skip
    refine lv_bipush (v := (-2)) hx hb dX4_truth_11 (by decide) ?_
    exact q_miret hx hb hr hlk dX4_truth_13 hP hS (by simp [truR, truV, truE, c_1]) (congrArg (q_pqW g a b) (by simp [truR, truV, truE, c_1]))
  · skip
    refine lv_iload_n hx hb dX4_truth_4 rfl (lv_at hl 1 rfl) ?_
    refine lv_sipush (v := 9999) hx hb dX4_truth_5 (by decide) ?_
    refine lv_icmp_le (tgt := 14) hx hb dX4_truth_8 (by decide) (fun c_8 => ?_) (fun c_8 => ?_)
    · skip
      refine lv_aload_n hx hb dX4_truth_14 rfl (lv_at hl 0 rfl) ?_
      refine va_get (D := g.1) (ci := 3) (v := .ref (a 0 0)) (C := RX4) (T := TX4) (N := 5) hx hb hts hi_X4 hown hK hP 0 rfl rfl 0 (by decide) fl_12 (fun _ h9 => h9) rfl dX4_truth_15 ?_
      refine va_get (D := g.1) (ci := 2) (v := .int (s_tru (v_now V))) (C := RX3) (T := TX3) (N := 12) hx hb hts hi_X3 hown hK hP 7 rfl rfl 11 (by decide) fl_148 (fun _ h9 => h9) rfl dX4_truth_18 ?_
      refine lv_bipush (v := (-6)) hx hb dX4_truth_21 (by decide) ?_
      refine lv_icmp_eq (tgt := 29) hx hb dX4_truth_23 (by decide) (fun c_23 => ?_) (fun c_23 => ?_)
      · skip
        refine lv_aload_n hx hb dX4_truth_29 rfl (lv_at hl 0 rfl) ?_
        refine va_get (D := g.1) (ci := 3) (v := .ref (b 3)) (C := RX4) (T := TX4) (N := 5) hx hb hts hi_X4 hown hK hP 0 rfl rfl 1 (by decide) fl_19 (fun _ h9 => h9) rfl dX4_truth_30 ?_
        refine lv_aload_n hx hb dX4_truth_33 rfl (lv_at hl 0 rfl) ?_
        refine va_get (D := g.1) (ci := 3) (v := .ref (a 0 0)) (C := RX4) (T := TX4) (N := 5) hx hb hts hi_X4 hown hK hP 0 rfl rfl 0 (by decide) fl_12 (fun _ h9 => h9) rfl dX4_truth_34 ?_
        refine q_VM (As := [.ref (a 0 0)]) (rest := []) (st2 := []) ⟨hx, hb, hml, hown, hts⟩ (c_X0_record l g a b V hI  (by first | omega | assumption) (by first | omega | assumption)) (cwV 1 hts gX4_truth_X0_record rfl rfl rfl (by decide +kernel) ⟨Nat.le_of_ble_eq_true rfl, Nat.le_of_ble_eq_true rfl⟩) q_B_blind (va_recv hK hP (ci := 0) (q0 := 3) rfl rfl) (q_B_of hP hK hN) rfl hl.1 rfl (Nat.le_of_ble_eq_true rfl) dX4_truth_37 (Nat.zero_le _) (Nat.zero_le _) hS (fun _ h => h) rfl rfl rfl (fun H locs hP _ hS _ => ?_)
        have hP : va_P g.1 vwCl (q_pqW g a b (v_rec V)) H := hP
        have hD : va_D (q_adr a b) (q_pqW g a b (v_rec V)) := q_D hI (fun _ h => h)
        refine lv_aload_n hx hb dX4_truth_40 rfl (lv_at hl 0 rfl) ?_
        refine va_get (D := g.1) (ci := 3) (v := .ref (a 0 0)) (C := RX4) (T := TX4) (N := 5) hx hb hts hi_X4 hown hK hP 0 rfl rfl 0 (by decide) fl_12 (fun _ h9 => h9) rfl dX4_truth_41 ?_
        refine lv_iload_n hx hb dX4_truth_44 rfl (lv_at hl 1 rfl) ?_
        refine va_put (D := g.1) (ci := 2) (v := .int y) (ty := .int) (C := RX3) (T := TX3) (N := 12) hx hb hts hi_X3 tyX3 tyX3_ok nmX3 hown hK hP hD hS 7 rfl rfl 11 (by decide) fl_148 (fun _ h9 => h9) rfl (by decide +kernel) rfl rfl (Nat.le_of_ble_eq_true rfl) dX4_truth_45 (fun H locs hP _ hS => ?_)
        have hP : va_P g.1 vwCl (q_pqW g a b (w_now (v_rec V) (u_tru (v_now V) y))) H := hP
        have hD : va_D (q_adr a b) (q_pqW g a b (w_now (v_rec V) (u_tru (v_now V) y))) := q_D hI (fun _ h => h)
        refine lv_aload_n hx hb dX4_truth_48 rfl (lv_at hl 0 rfl) ?_
        refine va_get (D := g.1) (ci := 3) (v := .ref (a 0 0)) (C := RX4) (T := TX4) (N := 5) hx hb hts hi_X4 hown hK hP 0 rfl rfl 0 (by decide) fl_12 (fun _ h9 => h9) rfl dX4_truth_49 ?_
        refine q_V (As := []) (rest := []) ⟨hx, hb, hml, hown, hts⟩ (c_X3_guessers l g (a 0) (u_tru (v_now V) y)  (by first | omega | assumption)) (cwV 0 hts gX4_truth_X3_guessers rfl rfl rfl (by decide +kernel) ⟨Nat.le_of_ble_eq_true rfl, Nat.le_of_ble_eq_true rfl⟩) q_B_blind (va_recv hK (q_nowP (V := w_now (v_rec V) (u_tru (v_now V) y)) hP) (ci := 2) (q0 := 0) rfl rfl) (q_B_of (q_nowP (V := w_now (v_rec V) (u_tru (v_now V) y)) hP) hK hN) rfl hl.1 rfl (Nat.le_of_ble_eq_true rfl) dX4_truth_52 (Nat.zero_le _) (Nat.zero_le _) ?_
        exact q_miret hx hb hr hlk dX4_truth_55 hP hS (by simp [truR, truE, c_1, c_8, c_23]; rfl) (congrArg (q_pqW g a b) (by simp [truR, truV, truE, c_1, c_8, c_23]))
      · skip
        refine lv_bipush (v := (-5)) hx hb dX4_truth_26 (by decide) ?_
        exact q_miret hx hb hr hlk dX4_truth_28 hP hS (by simp [truR, truV, truE, c_1, c_8, c_23]) (congrArg (q_pqW g a b) (by simp [truR, truV, truE, c_1, c_8, c_23]))
    · skip
      refine lv_bipush (v := (-2)) hx hb dX4_truth_11 (by decide) ?_
      exact q_miret hx hb hr hlk dX4_truth_13 hP hS (by simp [truR, truV, truE, c_1, c_8]) (congrArg (q_pqW g a b) (by simp [truR, truV, truE, c_1, c_8]))

set_option maxHeartbeats 2000000 in
set_option maxRecDepth 100000 in
theorem c_X4_put (l : Launch) (g : q_G) (a : Nat → Nat → Nat) (b : Nat → Nat) (V : q_CV) (hI : q_inj a b) (x : Int64) (h1_ : v_pl V ≤ 80) : Met l yX4_put wsX4_put { frames := 1, cells := 0, slots := 0, locals := 27 } (va_Pc [.ref (b 0), .long x] (q_B g (q_pqW g a b V))) (q_QM g (q_adr a b) (q_pqW g a b (putV V x)) (some (.int (putR V x)))) 0 0 (q_adr a b) := by
  refine q_mm (cc := cX4_put) (maxL := 4) (ret := (some .int)) (by decide) rfl (Nat.le_of_ble_eq_true rfl) ?_
  intro p e s m args below meth c ls hx hb hml hown hts hr hlk hnm hB hag hl
  obtain ⟨hP, hK, hN⟩ := hB
  have hS : va_S (q_adr a b) s.heap s.heap [] := va_S.rf
  have hP : va_P g.1 vwCl (q_pqW g a b V) s.heap := hP
  have hD : va_D (q_adr a b) (q_pqW g a b V) := q_D hI (fun _ h => h)
  have fl_26 := hts (.fieldLink RX4 26 "PubQuizzes" "pad" "LPubQuizzes$Pad;") (by decide +kernel)
  have hi_X4 : ∀ w ∈ u_ws RX4 TX4 5, w ∈ wsX4_put := by decide +kernel
  have hl : lv_has ls 4 [(0, .ref (b 0)), (1, .long x)] := hl
  have hk8 := chN_le x 8 0
  refine lv_lload_n hx hb dX4_put_0 rfl (lv_at hl 1 rfl) ?_
  refine q_S (As := [.long x]) (rest := []) ⟨hx, hb, hml, hown, hts⟩ (c_X1_charactersIn l x ) (va_cwS 1 hts gX4_put_X1_charactersIn rfl rfl rfl (by decide +kernel) ⟨Nat.le_of_ble_eq_true rfl, Nat.le_of_ble_eq_true rfl⟩) q_Blind_t (fun _ _ _ => trivial) rfl hl.1 rfl (Nat.le_of_ble_eq_true rfl) dX4_put_1 (Nat.zero_le _) (Nat.zero_le _) ?_
  refine lv_istore_n (lv' := [(3, .int (nI (chN x 0 8))), (0, .ref (b 0)), (1, .long x)]) hx hb dX4_put_4 rfl hl (by decide) rfl (fun ls hl => ?_)
  refine lv_iload_n hx hb dX4_put_5 rfl (lv_at hl 0 rfl) ?_
  refine lv_if_ne (tgt := 12) hx hb dX4_put_6 (by decide) (fun c_6 => ?_) (fun c_6 => ?_)
  · skip
    have c_6 : ¬ chN x 0 8 = 0 := fun q => c_6 (by rw [q]; rfl)
    refine lv_aload_n hx hb dX4_put_12 rfl (lv_at hl 1 rfl) ?_
    refine va_get (D := g.1) (ci := 3) (v := .ref (b 1)) (C := RX4) (T := TX4) (N := 5) hx hb hts hi_X4 hown hK hP 0 rfl rfl 2 (by decide) fl_26 (fun _ h9 => h9) rfl dX4_put_13 ?_
    refine lv_lload_n hx hb dX4_put_16 rfl (lv_at hl 2 rfl) ?_
    refine lv_iload_n hx hb dX4_put_17 rfl (lv_at hl 0 rfl) ?_
    refine q_VM (As := [.long x, .int (nI (chN x 0 8))]) (rest := []) (st2 := [.int (bI (decide (v_pl V + (chN x 0 8) ≤ 80)))]) ⟨hx, hb, hml, hown, hts⟩ (c_X1_append l g a b V hI x (chN x 0 8) (by first | omega | assumption) (by first | omega | assumption)) (cwV 2 hts gX4_put_X1_append rfl rfl rfl (by decide +kernel) ⟨Nat.le_of_ble_eq_true rfl, Nat.le_of_ble_eq_true rfl⟩) q_B_blind (va_recv hK hP (ci := 1) (q0 := 1) rfl rfl) (q_B_of hP hK hN) rfl hl.1 rfl (Nat.le_of_ble_eq_true rfl) dX4_put_18 (Nat.zero_le _) (Nat.zero_le _) hS (fun _ h => h) rfl rfl rfl (fun H locs hP _ hS _ => ?_)
    have hP : va_P g.1 vwCl (q_pqW g a b (v_apk V x (chN x 0 8))) H := hP
    have hD : va_D (q_adr a b) (q_pqW g a b (v_apk V x (chN x 0 8))) := q_D hI (fun _ h => h)
    refine lv_if_eq (tgt := 34) hx hb dX4_put_21 (by decide) (fun c_21 => ?_) (fun c_21 => ?_)
    · skip
      have c_21 : (decide (v_pl V + (chN x 0 8) ≤ 80)) = false := bI_eq c_21
      have c_21 : ¬ v_pl V + chN x 0 8 ≤ 80 := of_decide_eq_false c_21
      have eV : v_apk V x (chN x 0 8) = V := if_neg c_21
      rw [eV] at hP
      have hP : va_P g.1 vwCl (q_pqW g a b V) H := hP
      have hD : va_D (q_adr a b) (q_pqW g a b V) := q_D hI (fun _ h => h)
      refine lv_bipush (v := (-4)) hx hb dX4_put_34 (by decide) ?_
      exact q_miret hx hb hr hlk dX4_put_36 hP hS (by first | (simp [putR, putE, c_6, c_21]; done) | (simp [putR, putE, c_6, c_21]; rfl)) (congrArg (q_pqW g a b) (by simp [putR, putV, putE, c_6, c_21]))
    · skip
      have c_21 : (decide (v_pl V + (chN x 0 8) ≤ 80)) = true := bI_ne c_21
      have c_21 : v_pl V + chN x 0 8 ≤ 80 := of_decide_eq_true c_21
      have eV : v_apk V x (chN x 0 8) = v_appk V x (chN x 0 8) := if_pos c_21
      rw [eV] at hP
      have hP : va_P g.1 vwCl (q_pqW g a b (v_appk V x (chN x 0 8))) H := hP
      have hD : va_D (q_adr a b) (q_pqW g a b (v_appk V x (chN x 0 8))) := q_D hI (fun _ h => h)
      refine lv_aload_n hx hb dX4_put_24 rfl (lv_at hl 1 rfl) ?_
      refine va_get (D := g.1) (ci := 3) (v := .ref (b 1)) (C := RX4) (T := TX4) (N := 5) hx hb hts hi_X4 hown hK hP 0 rfl rfl 2 (by decide) fl_26 (fun _ h9 => h9) rfl dX4_put_25 ?_
      refine q_V (As := []) (rest := []) ⟨hx, hb, hml, hown, hts⟩ (c_X1_length l g (b 1) (b 2) (v_pc (v_appk V x (chN x 0 8))) (v_pl (v_appk V x (chN x 0 8)))  ) (cwV 0 hts gX4_put_X1_length rfl rfl rfl (by decide +kernel) ⟨Nat.le_of_ble_eq_true rfl, Nat.le_of_ble_eq_true rfl⟩) q_B_blind (va_recv hK (q_padP (V := v_appk V x (chN x 0 8)) hP) (ci := 1) (q0 := 0) rfl rfl) (q_B_of (q_padP (V := v_appk V x (chN x 0 8)) hP) hK hN) rfl hl.1 rfl (Nat.le_of_ble_eq_true rfl) dX4_put_28 (Nat.zero_le _) (Nat.zero_le _) ?_
      refine lv_goto (tgt := 36) hx hb dX4_put_31 (by decide) ?_
      exact q_miret hx hb hr hlk dX4_put_36 hP hS (by first | (simp [putR, putE, c_6, c_21]; done) | (simp [putR, putE, c_6, c_21]; rfl)) (congrArg (q_pqW g a b) (by simp [putR, putV, putE, c_6, c_21]))
  · skip
    have c_6 : chN x 0 8 = 0 := (nI_eq (by omega) (by decide)).mp (show nI (chN x 0 8) = nI 0 from c_6)
    refine lv_bipush (v := (-2)) hx hb dX4_put_9 (by decide) ?_
    exact q_miret hx hb hr hlk dX4_put_11 hP hS (by simp [putR, putV, putE, c_6]) (congrArg (q_pqW g a b) (by simp [putR, putV, putE, c_6]))

set_option maxHeartbeats 2000000 in
set_option maxRecDepth 100000 in
theorem c_X4_wipe (l : Launch) (g : q_G) (a : Nat → Nat → Nat) (b : Nat → Nat) (V : q_CV) (hI : q_inj a b) : Met l yX4_wipe wsX4_wipe { frames := 1, cells := 0, slots := 0, locals := 20 } (va_Pc [.ref (b 0)] (q_B g (q_pqW g a b V))) (q_QM g (q_adr a b) (q_pqW g a b (w_pl V 0)) (some (.int (nI (v_pl V))))) 0 0 (q_adr a b) := by
  refine q_mm (cc := cX4_wipe) (maxL := 2) (ret := (some .int)) (by decide) rfl (Nat.le_of_ble_eq_true rfl) ?_
  intro p e s m args below meth c ls hx hb hml hown hts hr hlk hnm hB hag hl
  obtain ⟨hP, hK, hN⟩ := hB
  have hS : va_S (q_adr a b) s.heap s.heap [] := va_S.rf
  have hP : va_P g.1 vwCl (q_pqW g a b V) s.heap := hP
  have hD : va_D (q_adr a b) (q_pqW g a b V) := q_D hI (fun _ h => h)
  have fl_26 := hts (.fieldLink RX4 26 "PubQuizzes" "pad" "LPubQuizzes$Pad;") (by decide +kernel)
  have hi_X4 : ∀ w ∈ u_ws RX4 TX4 5, w ∈ wsX4_wipe := by decide +kernel
  have hl : lv_has ls 2 [(0, .ref (b 0))] := hl
  refine lv_aload_n hx hb dX4_wipe_0 rfl (lv_at hl 0 rfl) ?_
  refine va_get (D := g.1) (ci := 3) (v := .ref (b 1)) (C := RX4) (T := TX4) (N := 5) hx hb hts hi_X4 hown hK hP 0 rfl rfl 2 (by decide) fl_26 (fun _ h9 => h9) rfl dX4_wipe_1 ?_
  refine q_V (As := []) (rest := []) ⟨hx, hb, hml, hown, hts⟩ (c_X1_length l g (b 1) (b 2) (v_pc V) (v_pl V)  ) (cwV 0 hts gX4_wipe_X1_length rfl rfl rfl (by decide +kernel) ⟨Nat.le_of_ble_eq_true rfl, Nat.le_of_ble_eq_true rfl⟩) q_B_blind (va_recv hK (q_padP (V := V) hP) (ci := 1) (q0 := 0) rfl rfl) (q_B_of (q_padP (V := V) hP) hK hN) rfl hl.1 rfl (Nat.le_of_ble_eq_true rfl) dX4_wipe_4 (Nat.zero_le _) (Nat.zero_le _) ?_
  refine lv_istore_n (lv' := [(1, .int (nI (v_pl V))), (0, .ref (b 0))]) hx hb dX4_wipe_7 rfl hl (by decide) rfl (fun ls hl => ?_)
  refine lv_aload_n hx hb dX4_wipe_8 rfl (lv_at hl 1 rfl) ?_
  refine va_get (D := g.1) (ci := 3) (v := .ref (b 1)) (C := RX4) (T := TX4) (N := 5) hx hb hts hi_X4 hown hK hP 0 rfl rfl 2 (by decide) fl_26 (fun _ h9 => h9) rfl dX4_wipe_9 ?_
  refine q_VM (As := []) (rest := []) (st2 := []) ⟨hx, hb, hml, hown, hts⟩ (c_X1_clear l g a b V hI  ) (cwV 0 hts gX4_wipe_X1_clear rfl rfl rfl (by decide +kernel) ⟨Nat.le_of_ble_eq_true rfl, Nat.le_of_ble_eq_true rfl⟩) q_B_blind (va_recv hK hP (ci := 1) (q0 := 1) rfl rfl) (q_B_of hP hK hN) rfl hl.1 rfl (Nat.le_of_ble_eq_true rfl) dX4_wipe_12 (Nat.zero_le _) (Nat.zero_le _) hS (fun _ h => h) rfl rfl rfl (fun H locs hP _ hS _ => ?_)
  have hP : va_P g.1 vwCl (q_pqW g a b (w_pl V 0)) H := hP
  have hD : va_D (q_adr a b) (q_pqW g a b (w_pl V 0)) := q_D hI (fun _ h => h)
  refine lv_iload_n hx hb dX4_wipe_15 rfl (lv_at hl 0 rfl) ?_
  exact q_miret hx hb hr hlk dX4_wipe_16 hP hS (rfl) (rfl)

set_option maxHeartbeats 2000000 in
set_option maxRecDepth 100000 in
theorem c_X4_undo (l : Launch) (g : q_G) (a : Nat → Nat → Nat) (b : Nat → Nat) (V : q_CV) (hI : q_inj a b) (h1_ : v_nxt V < 6) (h2_ : v_hl V ≤ 6) : Met l yX4_undo wsX4_undo { frames := 3, cells := 0, slots := 0, locals := 83 } (va_Pc [.ref (b 0)] (q_B g (q_pqW g a b V))) (q_QM g (q_adr a b) (q_pqW g a b (undV V)) (some (.int (undR V)))) 0 0 (q_adr a b) := by
  refine q_mm (cc := cX4_undo) (maxL := 1) (ret := (some .int)) (by decide) rfl (Nat.le_of_ble_eq_true rfl) ?_
  intro p e s m args below meth c ls hx hb hml hown hts hr hlk hnm hB hag hl
  obtain ⟨hP, hK, hN⟩ := hB
  have hS : va_S (q_adr a b) s.heap s.heap [] := va_S.rf
  have hP : va_P g.1 vwCl (q_pqW g a b V) s.heap := hP
  have hD : va_D (q_adr a b) (q_pqW g a b V) := q_D hI (fun _ h => h)
  have fl_12 := hts (.fieldLink RX4 12 "PubQuizzes" "now" "LPubQuizzes$State;") (by decide +kernel)
  have fl_19 := hts (.fieldLink RX4 19 "PubQuizzes" "history" "LPubQuizzes$History;") (by decide +kernel)
  have hi_X4 : ∀ w ∈ u_ws RX4 TX4 5, w ∈ wsX4_undo := by decide +kernel
  have hl : lv_has ls 1 [(0, .ref (b 0))] := hl
  refine lv_aload_n hx hb dX4_undo_0 rfl (lv_at hl 0 rfl) ?_
  refine va_get (D := g.1) (ci := 3) (v := .ref (b 3)) (C := RX4) (T := TX4) (N := 5) hx hb hts hi_X4 hown hK hP 0 rfl rfl 1 (by decide) fl_19 (fun _ h9 => h9) rfl dX4_undo_1 ?_
  refine q_V (As := []) (rest := []) ⟨hx, hb, hml, hown, hts⟩ (c_X0_length l g (b 3) (b 4) (v_nxt V) (v_hl V)  ) (cwV 0 hts gX4_undo_X0_length rfl rfl rfl (by decide +kernel) ⟨Nat.le_of_ble_eq_true rfl, Nat.le_of_ble_eq_true rfl⟩) q_B_blind (va_recv hK (q_hisP (V := V) hP) (ci := 0) (q0 := 0) rfl rfl) (q_B_of (q_hisP (V := V) hP) hK hN) rfl hl.1 rfl (Nat.le_of_ble_eq_true rfl) dX4_undo_4 (Nat.zero_le _) (Nat.zero_le _) ?_
  refine lv_if_ne (tgt := 13) hx hb dX4_undo_7 (by decide) (fun c_7 => ?_) (fun c_7 => ?_)
  · skip
    have c_7 : ¬ v_hl V = 0 := fun q => c_7 (by rw [q]; rfl)
    refine lv_aload_n hx hb dX4_undo_13 rfl (lv_at hl 0 rfl) ?_
    refine va_get (D := g.1) (ci := 3) (v := .ref (b 3)) (C := RX4) (T := TX4) (N := 5) hx hb hts hi_X4 hown hK hP 0 rfl rfl 1 (by decide) fl_19 (fun _ h9 => h9) rfl dX4_undo_14 ?_
    refine lv_aload_n hx hb dX4_undo_17 rfl (lv_at hl 0 rfl) ?_
    refine va_get (D := g.1) (ci := 3) (v := .ref (a 0 0)) (C := RX4) (T := TX4) (N := 5) hx hb hts hi_X4 hown hK hP 0 rfl rfl 0 (by decide) fl_12 (fun _ h9 => h9) rfl dX4_undo_18 ?_
    refine q_VM (As := [.ref (a 0 0)]) (rest := []) (st2 := []) ⟨hx, hb, hml, hown, hts⟩ (c_X0_takeBack l g a b V hI  (by first | omega | assumption) (by first | omega | assumption) (by first | omega | assumption)) (cwV 1 hts gX4_undo_X0_takeBack rfl rfl rfl (by decide +kernel) ⟨Nat.le_of_ble_eq_true rfl, Nat.le_of_ble_eq_true rfl⟩) q_B_blind (va_recv hK hP (ci := 0) (q0 := 3) rfl rfl) (q_B_of hP hK hN) rfl hl.1 rfl (Nat.le_of_ble_eq_true rfl) dX4_undo_21 (Nat.zero_le _) (Nat.zero_le _) hS (fun _ h => h) rfl rfl rfl (fun H locs hP _ hS _ => ?_)
    have hP : va_P g.1 vwCl (q_pqW g a b (v_und V)) H := hP
    have hD : va_D (q_adr a b) (q_pqW g a b (v_und V)) := q_D hI (fun _ h => h)
    refine lv_aload_n hx hb dX4_undo_24 rfl (lv_at hl 0 rfl) ?_
    refine va_get (D := g.1) (ci := 3) (v := .ref (b 3)) (C := RX4) (T := TX4) (N := 5) hx hb hts hi_X4 hown hK hP 0 rfl rfl 1 (by decide) fl_19 (fun _ h9 => h9) rfl dX4_undo_25 ?_
    refine q_V (As := []) (rest := []) ⟨hx, hb, hml, hown, hts⟩ (c_X0_length l g (b 3) (b 4) (v_nxt (v_und V)) (v_hl (v_und V))  ) (cwV 0 hts gX4_undo_X0_length rfl rfl rfl (by decide +kernel) ⟨Nat.le_of_ble_eq_true rfl, Nat.le_of_ble_eq_true rfl⟩) q_B_blind (va_recv hK (q_hisP (V := v_und V) hP) (ci := 0) (q0 := 0) rfl rfl) (q_B_of (q_hisP (V := v_und V) hP) hK hN) rfl hl.1 rfl (Nat.le_of_ble_eq_true rfl) dX4_undo_28 (Nat.zero_le _) (Nat.zero_le _) ?_
    exact q_miret hx hb hr hlk dX4_undo_31 hP hS (by simp [undR, undE, c_7]; rfl) (congrArg (q_pqW g a b) (by simp [undR, undV, undE, c_7]))
  · skip
    have c_7 : v_hl V = 0 := (nI_eq (by omega) (by decide)).mp (show nI (v_hl V) = nI 0 from c_7)
    refine lv_bipush (v := (-5)) hx hb dX4_undo_10 (by decide) ?_
    exact q_miret hx hb hr hlk dX4_undo_12 hP hS (by simp [undR, undV, undE, c_7]) (congrArg (q_pqW g a b) (by simp [undR, undV, undE, c_7]))

set_option maxHeartbeats 2000000 in
set_option maxRecDepth 100000 in
theorem c_X4_save (l : Launch) (g : q_G) (a : Nat → Nat → Nat) (b : Nat → Nat) (V : q_CV) (hI : q_inj a b) (x : Int32) : Met l yX4_save wsX4_save { frames := 2, cells := 0, slots := 0, locals := 61 } (va_Pc [.ref (b 0), .int x] (q_B g (q_pqW g a b V))) (q_QM g (q_adr a b) (q_pqW g a b (savV V x)) (some (.int (savR V x)))) 0 0 (q_adr a b) := by
  refine q_mm (cc := cX4_save) (maxL := 2) (ret := (some .int)) (by decide) rfl (Nat.le_of_ble_eq_true rfl) ?_
  intro p e s m args below meth c ls hx hb hml hown hts hr hlk hnm hB hag hl
  obtain ⟨hP, hK, hN⟩ := hB
  have hS : va_S (q_adr a b) s.heap s.heap [] := va_S.rf
  have hP : va_P g.1 vwCl (q_pqW g a b V) s.heap := hP
  have hD : va_D (q_adr a b) (q_pqW g a b V) := q_D hI (fun _ h => h)
  have fl_12 := hts (.fieldLink RX4 12 "PubQuizzes" "now" "LPubQuizzes$State;") (by decide +kernel)
  have fl_30 := hts (.fieldLink RX4 30 "PubQuizzes" "slots" "[LPubQuizzes$State;") (by decide +kernel)
  have fl_34 := hts (.fieldLink RX4 34 "PubQuizzes" "saved" "[Z") (by decide +kernel)
  have fl_52 := hts (.fieldLink RX4 52 "PubQuizzes$State" "teams" "I") (by decide +kernel)
  have hi_X4 : ∀ w ∈ u_ws RX4 TX4 5, w ∈ wsX4_save := by decide +kernel
  have hi_X3 : ∀ w ∈ u_ws RX3 TX3 12, w ∈ wsX4_save := by decide +kernel
  have hl : lv_has ls 2 [(0, .ref (b 0)), (1, .int x)] := hl
  refine lv_iload_n hx hb dX4_save_0 rfl (lv_at hl 1 rfl) ?_
  refine q_S (As := [.int x]) (rest := []) ⟨hx, hb, hml, hown, hts⟩ (c_X4_isSlot l x ) (va_cwS 1 hts gX4_save_X4_isSlot rfl rfl rfl (by decide +kernel) ⟨Nat.le_of_ble_eq_true rfl, Nat.le_of_ble_eq_true rfl⟩) q_Blind_t (fun _ _ _ => trivial) rfl hl.1 rfl (Nat.le_of_ble_eq_true rfl) dX4_save_1 (Nat.zero_le _) (Nat.zero_le _) ?_
  refine lv_if_ne (tgt := 10) hx hb dX4_save_4 (by decide) (fun c_4 => ?_) (fun c_4 => ?_)
  · skip
    have c_4 : (isSl x) = true := bI_ne c_4
    obtain ⟨s1, hs1, rfl⟩ := isSl_of c_4
    have cs1 : tN (nI s1) = s1 := tN_n (by omega)
    refine lv_aload_n hx hb dX4_save_10 rfl (lv_at hl 0 rfl) ?_
    refine va_get (D := g.1) (ci := 3) (v := .ref (a 0 0)) (C := RX4) (T := TX4) (N := 5) hx hb hts hi_X4 hown hK hP 0 rfl rfl 0 (by decide) fl_12 (fun _ h9 => h9) rfl dX4_save_11 ?_
    refine lv_aload_n hx hb dX4_save_14 rfl (lv_at hl 0 rfl) ?_
    refine va_get (D := g.1) (ci := 3) (v := .ref (b 5)) (C := RX4) (T := TX4) (N := 5) hx hb hts hi_X4 hown hK hP 0 rfl rfl 3 (by decide) fl_30 (fun _ h9 => h9) rfl dX4_save_15 ?_
    refine lv_iload_n hx hb dX4_save_18 rfl (lv_at hl 1 rfl) ?_
    refine q_aald (j := s1) (z := a (s1 + 7) 0) hx hb hK hP 5 4 rfl rfl rfl (by omega) (by decide) dX4_save_19 ?_
    have hBk := (q_pqP.mp hP).2
    have hP2 : va_P g.1 vwCl (q_stW g (a 0) (q_blk V 0) ++ q_stW g (a (s1 + 7)) (q_blk V (s1 + 7))) s.heap := q_P_app.mpr ⟨hBk 0 (by omega), hBk (s1 + 7) (by omega)⟩
    refine q_SM (As := [.ref (a 0 0), .ref (a (s1 + 7) 0)]) (rest := []) (st2 := []) ⟨hx, hb, hml, hown, hts⟩ (c_X3_copy l g a b 0 (s1 + 7) _ _ hI (by omega) (by omega) (by omega)) (va_cwS 2 hts gX4_save_X3_copy rfl rfl rfl (by decide +kernel) ⟨Nat.le_of_ble_eq_true rfl, Nat.le_of_ble_eq_true rfl⟩) q_B_blind (q_B_of hP2 hK hN) rfl hl.1 rfl (Nat.le_of_ble_eq_true rfl) dX4_save_20 (Nat.zero_le _) (Nat.zero_le _) hS (fun _ h => q_two_adr (by omega) (by omega) h) rfl rfl rfl (fun H locs hP3 hF3 hS _ => ?_)
    have hP := q_copyJ hI hP (by omega) (by omega) hP3 hF3
    rw [show v_copy V 0 (s1 + 7) = w_sx V (va_up (v_sx V) (s1 + 7) (v_now V)) from if_neg (Nat.succ_ne_zero _)] at hP
    have hP : va_P g.1 vwCl (q_pqW g a b (w_sx V (va_up (v_sx V) (s1 + 7) (v_now V)))) H := hP
    have hD : va_D (q_adr a b) (q_pqW g a b (w_sx V (va_up (v_sx V) (s1 + 7) (v_now V)))) := q_D hI (fun _ h => h)
    refine lv_aload_n hx hb dX4_save_23 rfl (lv_at hl 0 rfl) ?_
    refine va_get (D := g.1) (ci := 3) (v := .ref (b 6)) (C := RX4) (T := TX4) (N := 5) hx hb hts hi_X4 hown hK hP 0 rfl rfl 4 (by decide) fl_34 (fun _ h9 => h9) rfl dX4_save_24 ?_
    refine lv_iload_n hx hb dX4_save_27 rfl (lv_at hl 1 rfl) ?_
    refine lv_iconst (v := 1) hx hb dX4_save_28 (by decide) ?_
    refine q_zast (j := s1) hx hb hK hP hD hS 6 2 rfl rfl (rfl) (by omega) (by decide) dX4_save_29 (fun H locs hP hS => ?_)
    have hP : va_P g.1 vwCl (q_pqW g a b (w_sav (w_sx V (va_up (v_sx V) (s1 + 7) (v_now V))) (upd (v_sav V) s1 1))) H := hP
    have hD : va_D (q_adr a b) (q_pqW g a b (w_sav (w_sx V (va_up (v_sx V) (s1 + 7) (v_now V))) (upd (v_sav V) s1 1))) := q_D hI (fun _ h => h)
    refine lv_aload_n hx hb dX4_save_30 rfl (lv_at hl 0 rfl) ?_
    refine va_get (D := g.1) (ci := 3) (v := .ref (a 0 0)) (C := RX4) (T := TX4) (N := 5) hx hb hts hi_X4 hown hK hP 0 rfl rfl 0 (by decide) fl_12 (fun _ h9 => h9) rfl dX4_save_31 ?_
    refine va_get (D := g.1) (ci := 2) (v := .int (nI (s_n (v_now V)))) (C := RX3) (T := TX3) (N := 12) hx hb hts hi_X3 hown hK hP 7 rfl rfl 10 (by decide) fl_52 (fun _ h9 => h9) rfl dX4_save_34 ?_
    exact q_miret hx hb hr hlk dX4_save_37 hP hS (by simp [savR, savV, savE, cs1, c_4]) (congrArg (q_pqW g a b) (by simp [savR, savV, savE, cs1, c_4]))
  · skip
    have c_4 : (isSl x) = false := bI_eq c_4
    refine lv_bipush (v := (-2)) hx hb dX4_save_7 (by decide) ?_
    exact q_miret hx hb hr hlk dX4_save_9 hP hS (by simp [savR, savV, savE, c_4]) (congrArg (q_pqW g a b) (by simp [savR, savV, savE, c_4]))

set_option maxHeartbeats 2000000 in
set_option maxRecDepth 100000 in
theorem c_X4_restore (l : Launch) (g : q_G) (a : Nat → Nat → Nat) (b : Nat → Nat) (V : q_CV) (hI : q_inj a b) (x : Int32) (h1_ : v_nxt V < 6) (h2_ : v_hl V ≤ 6) : Met l yX4_restore wsX4_restore { frames := 3, cells := 0, slots := 0, locals := 82 } (va_Pc [.ref (b 0), .int x] (q_B g (q_pqW g a b V))) (q_QM g (q_adr a b) (q_pqW g a b (resV V x)) (some (.int (resR V x)))) 0 0 (q_adr a b) := by
  refine q_mm (cc := cX4_restore) (maxL := 2) (ret := (some .int)) (by decide) rfl (Nat.le_of_ble_eq_true rfl) ?_
  intro p e s m args below meth c ls hx hb hml hown hts hr hlk hnm hB hag hl
  obtain ⟨hP, hK, hN⟩ := hB
  have hS : va_S (q_adr a b) s.heap s.heap [] := va_S.rf
  have hP : va_P g.1 vwCl (q_pqW g a b V) s.heap := hP
  have hD : va_D (q_adr a b) (q_pqW g a b V) := q_D hI (fun _ h => h)
  have fl_12 := hts (.fieldLink RX4 12 "PubQuizzes" "now" "LPubQuizzes$State;") (by decide +kernel)
  have fl_19 := hts (.fieldLink RX4 19 "PubQuizzes" "history" "LPubQuizzes$History;") (by decide +kernel)
  have fl_30 := hts (.fieldLink RX4 30 "PubQuizzes" "slots" "[LPubQuizzes$State;") (by decide +kernel)
  have fl_34 := hts (.fieldLink RX4 34 "PubQuizzes" "saved" "[Z") (by decide +kernel)
  have fl_52 := hts (.fieldLink RX4 52 "PubQuizzes$State" "teams" "I") (by decide +kernel)
  have hi_X4 : ∀ w ∈ u_ws RX4 TX4 5, w ∈ wsX4_restore := by decide +kernel
  have hi_X3 : ∀ w ∈ u_ws RX3 TX3 12, w ∈ wsX4_restore := by decide +kernel
  have hl : lv_has ls 2 [(0, .ref (b 0)), (1, .int x)] := hl
  refine lv_iload_n hx hb dX4_restore_0 rfl (lv_at hl 1 rfl) ?_
  refine q_S (As := [.int x]) (rest := []) ⟨hx, hb, hml, hown, hts⟩ (c_X4_isSlot l x ) (va_cwS 1 hts gX4_restore_X4_isSlot rfl rfl rfl (by decide +kernel) ⟨Nat.le_of_ble_eq_true rfl, Nat.le_of_ble_eq_true rfl⟩) q_Blind_t (fun _ _ _ => trivial) rfl hl.1 rfl (Nat.le_of_ble_eq_true rfl) dX4_restore_1 (Nat.zero_le _) (Nat.zero_le _) ?_
  refine lv_if_ne (tgt := 10) hx hb dX4_restore_4 (by decide) (fun c_4 => ?_) (fun c_4 => ?_)
  · skip
    have c_4 : (isSl x) = true := bI_ne c_4
    obtain ⟨s1, hs1, rfl⟩ := isSl_of c_4
    have cs1 : tN (nI s1) = s1 := tN_n (by omega)
    refine lv_aload_n hx hb dX4_restore_10 rfl (lv_at hl 0 rfl) ?_
    refine va_get (D := g.1) (ci := 3) (v := .ref (b 6)) (C := RX4) (T := TX4) (N := 5) hx hb hts hi_X4 hown hK hP 0 rfl rfl 4 (by decide) fl_34 (fun _ h9 => h9) rfl dX4_restore_11 ?_
    refine lv_iload_n hx hb dX4_restore_14 rfl (lv_at hl 1 rfl) ?_
    refine q_zald (j := s1) hx hb hK hP 6 2 rfl rfl (by omega) (by decide) dX4_restore_15 ?_
    refine lv_if_ne (tgt := 22) hx hb dX4_restore_16 (by decide) (fun c_16 => ?_) (fun c_16 => ?_)
    · skip
      refine lv_aload_n hx hb dX4_restore_22 rfl (lv_at hl 0 rfl) ?_
      refine va_get (D := g.1) (ci := 3) (v := .ref (b 3)) (C := RX4) (T := TX4) (N := 5) hx hb hts hi_X4 hown hK hP 0 rfl rfl 1 (by decide) fl_19 (fun _ h9 => h9) rfl dX4_restore_23 ?_
      refine lv_aload_n hx hb dX4_restore_26 rfl (lv_at hl 0 rfl) ?_
      refine va_get (D := g.1) (ci := 3) (v := .ref (a 0 0)) (C := RX4) (T := TX4) (N := 5) hx hb hts hi_X4 hown hK hP 0 rfl rfl 0 (by decide) fl_12 (fun _ h9 => h9) rfl dX4_restore_27 ?_
      refine q_VM (As := [.ref (a 0 0)]) (rest := []) (st2 := []) ⟨hx, hb, hml, hown, hts⟩ (c_X0_record l g a b V hI  (by first | omega | assumption) (by first | omega | assumption)) (cwV 1 hts gX4_restore_X0_record rfl rfl rfl (by decide +kernel) ⟨Nat.le_of_ble_eq_true rfl, Nat.le_of_ble_eq_true rfl⟩) q_B_blind (va_recv hK hP (ci := 0) (q0 := 3) rfl rfl) (q_B_of hP hK hN) rfl hl.1 rfl (Nat.le_of_ble_eq_true rfl) dX4_restore_30 (Nat.zero_le _) (Nat.zero_le _) hS (fun _ h => h) rfl rfl rfl (fun H locs hP _ hS _ => ?_)
      have hP : va_P g.1 vwCl (q_pqW g a b (v_rec V)) H := hP
      have hD : va_D (q_adr a b) (q_pqW g a b (v_rec V)) := q_D hI (fun _ h => h)
      refine lv_aload_n hx hb dX4_restore_33 rfl (lv_at hl 0 rfl) ?_
      refine va_get (D := g.1) (ci := 3) (v := .ref (b 5)) (C := RX4) (T := TX4) (N := 5) hx hb hts hi_X4 hown hK hP 0 rfl rfl 3 (by decide) fl_30 (fun _ h9 => h9) rfl dX4_restore_34 ?_
      refine lv_iload_n hx hb dX4_restore_37 rfl (lv_at hl 1 rfl) ?_
      refine q_aald (j := s1) (z := a (s1 + 7) 0) hx hb hK hP 5 4 rfl rfl rfl (by omega) (by decide) dX4_restore_38 ?_
      refine lv_aload_n hx hb dX4_restore_39 rfl (lv_at hl 0 rfl) ?_
      refine va_get (D := g.1) (ci := 3) (v := .ref (a 0 0)) (C := RX4) (T := TX4) (N := 5) hx hb hts hi_X4 hown hK hP 0 rfl rfl 0 (by decide) fl_12 (fun _ h9 => h9) rfl dX4_restore_40 ?_
      have hBk := (q_pqP.mp hP).2
      have hP2 : va_P g.1 vwCl (q_stW g (a (s1 + 7)) (q_blk (v_rec V) (s1 + 7)) ++ q_stW g (a 0) (q_blk (v_rec V) 0)) H := q_P_app.mpr ⟨hBk (s1 + 7) (by omega), hBk 0 (by omega)⟩
      refine q_SM (As := [.ref (a (s1 + 7) 0), .ref (a 0 0)]) (rest := []) (st2 := []) ⟨hx, hb, hml, hown, hts⟩ (c_X3_copy l g a b (s1 + 7) 0 _ _ hI (by omega) (by omega) (by omega)) (va_cwS 2 hts gX4_restore_X3_copy rfl rfl rfl (by decide +kernel) ⟨Nat.le_of_ble_eq_true rfl, Nat.le_of_ble_eq_true rfl⟩) q_B_blind (q_B_of hP2 hK hN) rfl hl.1 rfl (Nat.le_of_ble_eq_true rfl) dX4_restore_43 (Nat.zero_le _) (Nat.zero_le _) hS (fun _ h => q_two_adr (by omega) (by omega) h) rfl rfl rfl (fun H locs hP3 hF3 hS _ => ?_)
      have hP := q_copyJ hI hP (by omega) (by omega) hP3 hF3
      rw [show v_copy (v_rec V) (s1 + 7) 0 = w_now (v_rec V) (v_sx V (s1 + 7)) from v_resE (by omega)] at hP
      have hP : va_P g.1 vwCl (q_pqW g a b (w_now (v_rec V) (v_sx V (s1 + 7)))) H := hP
      have hD : va_D (q_adr a b) (q_pqW g a b (w_now (v_rec V) (v_sx V (s1 + 7)))) := q_D hI (fun _ h => h)
      refine lv_aload_n hx hb dX4_restore_46 rfl (lv_at hl 0 rfl) ?_
      refine va_get (D := g.1) (ci := 3) (v := .ref (a 0 0)) (C := RX4) (T := TX4) (N := 5) hx hb hts hi_X4 hown hK hP 0 rfl rfl 0 (by decide) fl_12 (fun _ h9 => h9) rfl dX4_restore_47 ?_
      refine va_get (D := g.1) (ci := 2) (v := .int (nI (s_n (v_sx V (s1 + 7))))) (C := RX3) (T := TX3) (N := 12) hx hb hts hi_X3 hown hK hP 7 rfl rfl 10 (by decide) fl_52 (fun _ h9 => h9) rfl dX4_restore_50 ?_
      exact q_miret hx hb hr hlk dX4_restore_53 hP hS (by simp [resR, resV, resE, cs1, c_4, c_16]) (congrArg (q_pqW g a b) (by simp [resR, resV, resE, cs1, c_4, c_16]))
    · skip
      refine lv_bipush (v := (-5)) hx hb dX4_restore_19 (by decide) ?_
      exact q_miret hx hb hr hlk dX4_restore_21 hP hS (by simp [resR, resV, resE, cs1, c_4, c_16]) (congrArg (q_pqW g a b) (by simp [resR, resV, resE, cs1, c_4, c_16]))
  · skip
    have c_4 : (isSl x) = false := bI_eq c_4
    refine lv_bipush (v := (-2)) hx hb dX4_restore_7 (by decide) ?_
    exact q_miret hx hb hr hlk dX4_restore_9 hP hS (by simp [resR, resV, resE, c_4]) (congrArg (q_pqW g a b) (by simp [resR, resV, resE, c_4]))
