/-! the reference's look -/
def lokM (M : q_MV) (V : q_CV) (x y : Int32) : q_MV := if lokE V x y = 0 then n_s (m_rec M) (upd (upd (upd (upd (m_s (m_rec M)) (136 + 15 * (tN x * 8 + tN y) + 2) (truM (v_now V) (tN x) (tN y))) (136 + 15 * (tN x * 8 + tN y) + 4) 1) (96 + 4 * tN (s_mkr (v_now V) (tN x * 8 + tN y)) + 2) (s_fin (v_now V) (tN (s_mkr (v_now V) (tN x * 8 + tN y))) + bI (wroS (v_now V) (tN x) (tN y)))) 7 (looA (v_now V) + 1)) else M

set_option maxHeartbeats 2000000 in
set_option maxRecDepth 100000 in
theorem c_X5_look (l : Launch) (g : q_G) (d : Nat → Nat) (M : q_MV) (hJ : q_mInj d) (V : q_CV) (K : Nat) (hc : q_cp (v_now V) (m_s M)) (ho : q_ok K (v_now V)) (hK5 : K ≤ 512) (x : Int32) (y : Int32) (h1_ : m_st M ≤ 6) : Met l yX5_look wsX5_look { frames := 2, cells := 0, slots := 0, locals := 46 } (va_Pc [.ref (d 0), .int x, .int y] (q_B g (q_mdW g d M))) (q_QM g (q_mAd d) (q_mdW g d (lokM M V x y)) (some (.int (lokR V x y)))) 0 0 (q_mAd d) := by
  refine q_mm (cc := cX5_look) (maxL := 5) (ret := (some .int)) (by decide) rfl (Nat.le_of_ble_eq_true rfl) ?_
  intro p e s m args below meth c ls hx hb hml hown hts hr hlk hnm hB hag hl
  obtain ⟨hP, hK, hN⟩ := hB
  have hS : va_S (q_mAd d) s.heap s.heap [] := va_S.rf
  have hP : va_P g.1 vwCl (q_mdW g d M) s.heap := hP
  have hD : va_D (q_mAd d) (q_mdW g d M) := q_mD hJ (fun _ h => h)
  have fl_7 := hts (.fieldLink RX5 7 "PubQuizzesModel" "s" "[I") (by decide +kernel)
  have hi_X5 : ∀ w ∈ u_ws RX5 TX5 7, w ∈ wsX5_look := by decide +kernel
  have hl : lv_has ls 5 [(0, .ref (d 0)), (1, .int x), (2, .int y)] := hl
  have hn10 := ok_n ho
  refine lv_aload_n hx hb dX5_look_0 rfl (lv_at hl 0 rfl) ?_
  refine lv_iload_n hx hb dX5_look_1 rfl (lv_at hl 1 rfl) ?_
  refine q_V (As := [.int x]) (rest := []) ⟨hx, hb, hml, hown, hts⟩ (c_X5_isTeam l g d M (v_now V) K hc ho hK5 x ) (cwV 1 hts gX5_look_X5_isTeam rfl rfl rfl (by decide +kernel) ⟨Nat.le_of_ble_eq_true rfl, Nat.le_of_ble_eq_true rfl⟩) q_B_blind (va_recv hK hP (ci := 4) (q0 := 0) rfl rfl) (q_B_of hP hK hN) rfl hl.1 rfl (Nat.le_of_ble_eq_true rfl) dX5_look_2 (Nat.zero_le _) (Nat.zero_le _) ?_
  refine lv_if_eq (tgt := 15) hx hb dX5_look_5 (by decide) (fun c_5 => ?_) (fun c_5 => ?_)
  · skip
    have c_5 : (isTm (v_now V) x) = false := bI_eq c_5
    refine lv_iconst (v := (-1)) hx hb dX5_look_15 (by decide) ?_
    exact q_miret hx hb hr hlk dX5_look_16 hP hS (by simp [lokR, lokM, lokE, n_ss, bI, c_5]) (by simp [lokR, lokM, lokE, n_ss, bI, c_5])
  · skip
    have c_5 : (isTm (v_now V) x) = true := bI_ne c_5
    obtain ⟨t1, ht1, ht1x, rfl⟩ := isTm_of hn10 c_5
    have ct1 : tN (nI t1) = t1 := tN_n (by omega)
    refine lv_iload_n hx hb dX5_look_8 rfl (lv_at hl 2 rfl) ?_
    refine q_S (As := [.int y]) (rest := []) ⟨hx, hb, hml, hown, hts⟩ (c_X5_isRound l y ) (va_cwS 1 hts gX5_look_X5_isRound rfl rfl rfl (by decide +kernel) ⟨Nat.le_of_ble_eq_true rfl, Nat.le_of_ble_eq_true rfl⟩) q_Blind_t (fun _ _ _ => trivial) rfl hl.1 rfl (Nat.le_of_ble_eq_true rfl) dX5_look_9 (Nat.zero_le _) (Nat.zero_le _) ?_
    refine lv_if_ne (tgt := 17) hx hb dX5_look_12 (by decide) (fun c_12 => ?_) (fun c_12 => ?_)
    · skip
      have c_12 : (isRd y) = true := bI_ne c_12
      obtain ⟨r1, hr1, rfl⟩ := isRd_of c_12
      have cr1 : tN (nI r1) = r1 := tN_n (by omega)
      refine lv_iload_n hx hb dX5_look_17 rfl (lv_at hl 1 rfl) ?_
      refine lv_iload_n hx hb dX5_look_18 rfl (lv_at hl 2 rfl) ?_
      refine q_S (As := [.int (nI t1), .int (nI r1)]) (rest := []) ⟨hx, hb, hml, hown, hts⟩ (c_X5_h l t1 r1 ) (va_cwS 2 hts gX5_look_X5_h rfl rfl rfl (by decide +kernel) ⟨Nat.le_of_ble_eq_true rfl, Nat.le_of_ble_eq_true rfl⟩) q_Blind_t (fun _ _ _ => trivial) rfl hl.1 rfl (Nat.le_of_ble_eq_true rfl) dX5_look_19 (Nat.zero_le _) (Nat.zero_le _) ?_
      refine lv_istore_n (lv' := [(3, .int (nI (136 + 15 * (t1 * 8 + r1)))), (0, .ref (d 0)), (1, .int (nI t1)), (2, .int (nI r1))]) hx hb dX5_look_22 rfl hl (by decide) rfl (fun ls hl => ?_)
      refine lv_aload_n hx hb dX5_look_23 rfl (lv_at hl 1 rfl) ?_
      refine va_get (D := g.1) (ci := 4) (v := .ref (d 1)) (C := RX5) (T := TX5) (N := 7) hx hb hts hi_X5 hown hK hP 0 rfl rfl 0 (by decide) fl_7 (fun _ h9 => h9) rfl dX5_look_24 ?_
      refine lv_iload_n hx hb dX5_look_27 rfl (lv_at hl 0 rfl) ?_
      refine lv_iconst (v := 1) hx hb dX5_look_28 (by decide) ?_
      refine lv_iadd hx hb dX5_look_29 ?_
      refine q_reI (show (((nI (136 + 15 * (t1 * 8 + r1))) + 1) : Int32) = nI (136 + 15 * (t1 * 8 + r1) + 1) from nI_add _ _) ?_
      refine q_iald (j := (136 + 15 * (t1 * 8 + r1) + 1)) hx hb hK hP 1 0 rfl rfl (by omega) (by decide) dX5_look_30 ?_
      refine q_reI (show (m_s M (136 + 15 * (t1 * 8 + r1) + 1) : Int32) = bI (tldS (v_now V) t1 r1) from cp_tld hc (t := t1) (r := r1) (by omega) (by omega)) ?_
      refine lv_if_eq (tgt := 46) hx hb dX5_look_31 (by decide) (fun c_31 => ?_) (fun c_31 => ?_)
      · skip
        have c_31 : (tldS (v_now V) t1 r1) = false := bI_eq c_31
        refine lv_bipush (v := (-5)) hx hb dX5_look_46 (by decide) ?_
        exact q_miret hx hb hr hlk dX5_look_48 hP hS (by simp [lokR, lokM, lokE, n_ss, bI, ct1, c_5, cr1, c_12, c_31]) (by simp [lokR, lokM, lokE, n_ss, bI, ct1, c_5, cr1, c_12, c_31])
      · skip
        have c_31 : (tldS (v_now V) t1 r1) = true := bI_ne c_31
        have hh1 := ok_th ho (t := t1) (r := r1) (by omega) (by omega) c_31
        have ho1 := ok_to ho (t := t1) (r := r1) (by omega) (by omega) c_31
        obtain ⟨m1, hm1, em1⟩ := ok_mk ho (t := t1) (r := r1) (by omega) (by omega) c_31
        have cm1 : tN (nI m1) = m1 := tN_n (by omega)
        refine lv_aload_n hx hb dX5_look_34 rfl (lv_at hl 1 rfl) ?_
        refine va_get (D := g.1) (ci := 4) (v := .ref (d 1)) (C := RX5) (T := TX5) (N := 7) hx hb hts hi_X5 hown hK hP 0 rfl rfl 0 (by decide) fl_7 (fun _ h9 => h9) rfl dX5_look_35 ?_
        refine lv_iload_n hx hb dX5_look_38 rfl (lv_at hl 0 rfl) ?_
        refine lv_iconst (v := 4) hx hb dX5_look_39 (by decide) ?_
        refine lv_iadd hx hb dX5_look_40 ?_
        refine q_reI (show (((nI (136 + 15 * (t1 * 8 + r1))) + 4) : Int32) = nI (136 + 15 * (t1 * 8 + r1) + 4) from nI_add _ _) ?_
        refine q_iald (j := (136 + 15 * (t1 * 8 + r1) + 4)) hx hb hK hP 1 0 rfl rfl (by omega) (by decide) dX5_look_41 ?_
        refine q_reI (show (m_s M (136 + 15 * (t1 * 8 + r1) + 4) : Int32) = bI (lokS (v_now V) t1 r1) from cp_lok hc (t := t1) (r := r1) (by omega) (by omega)) ?_
        refine lv_iconst (v := 1) hx hb dX5_look_42 (by decide) ?_
        refine lv_icmp_ne (tgt := 49) hx hb dX5_look_43 (by decide) (fun c_43 => ?_) (fun c_43 => ?_)
        · skip
          have c_43 : (lokS (v_now V) t1 r1) = false := bI_n1 c_43
          refine lv_aload_n hx hb dX5_look_49 rfl (lv_at hl 1 rfl) ?_
          refine q_VM (As := []) (rest := []) (st2 := []) ⟨hx, hb, hml, hown, hts⟩ (c_X5_record l g d M hJ  (by first | omega | assumption)) (cwV 0 hts gX5_look_X5_record rfl rfl rfl (by decide +kernel) ⟨Nat.le_of_ble_eq_true rfl, Nat.le_of_ble_eq_true rfl⟩) q_B_blind (va_recv hK hP (ci := 4) (q0 := 0) rfl rfl) (q_B_of hP hK hN) rfl hl.1 rfl (Nat.le_of_ble_eq_true rfl) dX5_look_50 (Nat.zero_le _) (Nat.zero_le _) hS (fun _ h => h) rfl rfl rfl (fun H locs hP _ hS _ => ?_)
          have hP : va_P g.1 vwCl (q_mdW g d (m_rec M)) H := hP
          have hD : va_D (q_mAd d) (q_mdW g d (m_rec M)) := q_mD hJ (fun _ h => h)
          have hc : q_cp (v_now V) (m_s (m_rec M)) := by rw [m_recs]; exact hc
          refine lv_aload_n hx hb dX5_look_53 rfl (lv_at hl 1 rfl) ?_
          refine va_get (D := g.1) (ci := 4) (v := .ref (d 1)) (C := RX5) (T := TX5) (N := 7) hx hb hts hi_X5 hown hK hP 0 rfl rfl 0 (by decide) fl_7 (fun _ h9 => h9) rfl dX5_look_54 ?_
          refine lv_iload_n hx hb dX5_look_57 rfl (lv_at hl 0 rfl) ?_
          refine lv_iconst (v := 2) hx hb dX5_look_58 (by decide) ?_
          refine lv_iadd hx hb dX5_look_59 ?_
          refine q_reI (show (((nI (136 + 15 * (t1 * 8 + r1))) + 2) : Int32) = nI (136 + 15 * (t1 * 8 + r1) + 2) from nI_add _ _) ?_
          refine q_iald (j := (136 + 15 * (t1 * 8 + r1) + 2)) hx hb hK hP 1 0 rfl rfl (by omega) (by decide) dX5_look_60 ?_
          refine q_reI (show (m_s (m_rec M) (136 + 15 * (t1 * 8 + r1) + 2) : Int32) = s_mar (v_now V) (t1 * 8 + r1) from cp_mar hc (t := t1) (r := r1) (by omega) (by omega) (by assumption)) ?_
          refine lv_aload_n hx hb dX5_look_61 rfl (lv_at hl 1 rfl) ?_
          refine lv_iload_n hx hb dX5_look_62 rfl (lv_at hl 2 rfl) ?_
          refine lv_iload_n hx hb dX5_look_63 rfl (lv_at hl 3 rfl) ?_
          refine q_V (As := [.int (nI t1), .int (nI r1)]) (rest := [.int (s_mar (v_now V) (t1 * 8 + r1))]) ⟨hx, hb, hml, hown, hts⟩ (c_X5_trueMark l g d (m_rec M) (v_now V) K hc ho hK5 t1 r1 (by first | omega | assumption) (by first | omega | assumption) (by first | omega | assumption) (by first | omega | assumption)) (cwV 2 hts gX5_look_X5_trueMark rfl rfl rfl (by decide +kernel) ⟨Nat.le_of_ble_eq_true rfl, Nat.le_of_ble_eq_true rfl⟩) q_B_blind (va_recv hK hP (ci := 4) (q0 := 0) rfl rfl) (q_B_of hP hK hN) rfl hl.1 rfl (Nat.le_of_ble_eq_true rfl) dX5_look_64 (Nat.zero_le _) (Nat.zero_le _) ?_
          refine lv_icmp_ne (tgt := 74) hx hb dX5_look_67 (by decide) (fun c_67 => ?_) (fun c_67 => ?_)
          · skip
            have hw1 : wroS (v_now V) t1 r1 = true := by simp [wroS, c_31, c_43, c_67]
            refine lv_iconst (v := 1) hx hb dX5_look_74 (by decide) ?_
            refine lv_istore (lv' := [(4, .int 1), (3, .int (nI (136 + 15 * (t1 * 8 + r1)))), (0, .ref (d 0)), (1, .int (nI t1)), (2, .int (nI r1))]) hx hb dX5_look_75 hl (by decide) rfl (fun ls hl => ?_)
            refine lv_aload_n hx hb dX5_look_77 rfl (lv_at hl 2 rfl) ?_
            refine va_get (D := g.1) (ci := 4) (v := .ref (d 1)) (C := RX5) (T := TX5) (N := 7) hx hb hts hi_X5 hown hK hP 0 rfl rfl 0 (by decide) fl_7 (fun _ h9 => h9) rfl dX5_look_78 ?_
            refine lv_iload_n hx hb dX5_look_81 rfl (lv_at hl 1 rfl) ?_
            refine lv_iconst (v := 2) hx hb dX5_look_82 (by decide) ?_
            refine lv_iadd hx hb dX5_look_83 ?_
            refine q_reI (show (((nI (136 + 15 * (t1 * 8 + r1))) + 2) : Int32) = nI (136 + 15 * (t1 * 8 + r1) + 2) from nI_add _ _) ?_
            refine lv_aload_n hx hb dX5_look_84 rfl (lv_at hl 2 rfl) ?_
            refine lv_iload_n hx hb dX5_look_85 rfl (lv_at hl 3 rfl) ?_
            refine lv_iload_n hx hb dX5_look_86 rfl (lv_at hl 4 rfl) ?_
            refine q_V (As := [.int (nI t1), .int (nI r1)]) (rest := [.int (nI (136 + 15 * (t1 * 8 + r1) + 2)), .ref (d 1)]) ⟨hx, hb, hml, hown, hts⟩ (c_X5_trueMark l g d (m_rec M) (v_now V) K hc ho hK5 t1 r1 (by first | omega | assumption) (by first | omega | assumption) (by first | omega | assumption) (by first | omega | assumption)) (cwV 2 hts gX5_look_X5_trueMark rfl rfl rfl (by decide +kernel) ⟨Nat.le_of_ble_eq_true rfl, Nat.le_of_ble_eq_true rfl⟩) q_B_blind (va_recv hK hP (ci := 4) (q0 := 0) rfl rfl) (q_B_of hP hK hN) rfl hl.1 rfl (Nat.le_of_ble_eq_true rfl) dX5_look_87 (Nat.zero_le _) (Nat.zero_le _) ?_
            refine q_iast (j := (136 + 15 * (t1 * 8 + r1) + 2)) hx hb hK hP hD hS 1 0 rfl rfl (by omega) (by decide) dX5_look_90 (fun H locs hP hS => ?_)
            have hP : va_P g.1 vwCl (q_mdW g d (n_s (m_rec M) (upd (m_s (m_rec M)) (136 + 15 * (t1 * 8 + r1) + 2) (truM (v_now V) t1 r1)))) H := hP
            have hD : va_D (q_mAd d) (q_mdW g d (n_s (m_rec M) (upd (m_s (m_rec M)) (136 + 15 * (t1 * 8 + r1) + 2) (truM (v_now V) t1 r1)))) := q_mD hJ (fun _ h => h)
            refine lv_aload_n hx hb dX5_look_91 rfl (lv_at hl 2 rfl) ?_
            refine va_get (D := g.1) (ci := 4) (v := .ref (d 1)) (C := RX5) (T := TX5) (N := 7) hx hb hts hi_X5 hown hK hP 0 rfl rfl 0 (by decide) fl_7 (fun _ h9 => h9) rfl dX5_look_92 ?_
            refine lv_iload_n hx hb dX5_look_95 rfl (lv_at hl 1 rfl) ?_
            refine lv_iconst (v := 4) hx hb dX5_look_96 (by decide) ?_
            refine lv_iadd hx hb dX5_look_97 ?_
            refine q_reI (show (((nI (136 + 15 * (t1 * 8 + r1))) + 4) : Int32) = nI (136 + 15 * (t1 * 8 + r1) + 4) from nI_add _ _) ?_
            refine lv_iconst (v := 1) hx hb dX5_look_98 (by decide) ?_
            refine q_iast (j := (136 + 15 * (t1 * 8 + r1) + 4)) hx hb hK hP hD hS 1 0 rfl rfl (by omega) (by decide) dX5_look_99 (fun H locs hP hS => ?_)
            have hP : va_P g.1 vwCl (q_mdW g d (n_s (n_s (m_rec M) (upd (m_s (m_rec M)) (136 + 15 * (t1 * 8 + r1) + 2) (truM (v_now V) t1 r1))) (upd (upd (m_s (m_rec M)) (136 + 15 * (t1 * 8 + r1) + 2) (truM (v_now V) t1 r1)) (136 + 15 * (t1 * 8 + r1) + 4) 1))) H := hP
            have hD : va_D (q_mAd d) (q_mdW g d (n_s (n_s (m_rec M) (upd (m_s (m_rec M)) (136 + 15 * (t1 * 8 + r1) + 2) (truM (v_now V) t1 r1))) (upd (upd (m_s (m_rec M)) (136 + 15 * (t1 * 8 + r1) + 2) (truM (v_now V) t1 r1)) (136 + 15 * (t1 * 8 + r1) + 4) 1))) := q_mD hJ (fun _ h => h)
            refine lv_aload_n hx hb dX5_look_100 rfl (lv_at hl 2 rfl) ?_
            refine va_get (D := g.1) (ci := 4) (v := .ref (d 1)) (C := RX5) (T := TX5) (N := 7) hx hb hts hi_X5 hown hK hP 0 rfl rfl 0 (by decide) fl_7 (fun _ h9 => h9) rfl dX5_look_101 ?_
            refine lv_aload_n hx hb dX5_look_104 rfl (lv_at hl 2 rfl) ?_
            refine va_get (D := g.1) (ci := 4) (v := .ref (d 1)) (C := RX5) (T := TX5) (N := 7) hx hb hts hi_X5 hown hK hP 0 rfl rfl 0 (by decide) fl_7 (fun _ h9 => h9) rfl dX5_look_105 ?_
            refine lv_iload_n hx hb dX5_look_108 rfl (lv_at hl 1 rfl) ?_
            refine lv_iconst (v := 3) hx hb dX5_look_109 (by decide) ?_
            refine lv_iadd hx hb dX5_look_110 ?_
            refine q_reI (show (((nI (136 + 15 * (t1 * 8 + r1))) + 3) : Int32) = nI (136 + 15 * (t1 * 8 + r1) + 3) from nI_add _ _) ?_
            refine q_iald (j := (136 + 15 * (t1 * 8 + r1) + 3)) hx hb hK hP 1 0 rfl rfl (by omega) (by decide) dX5_look_111 ?_
            refine q_reI (show (upd (upd (m_s (m_rec M)) (136 + 15 * (t1 * 8 + r1) + 2) (truM (v_now V) t1 r1)) (136 + 15 * (t1 * 8 + r1) + 4) 1 (136 + 15 * (t1 * 8 + r1) + 3) : Int32) = nI m1 from (up_ne (by omega)).trans ((up_ne (by omega)).trans ((cp_mkr hc (by omega) (by omega) c_31).trans em1))) ?_
            refine q_S (As := [.int (nI m1)]) (rest := [.ref (d 1)]) ⟨hx, hb, hml, hown, hts⟩ (c_X5_t l m1 ) (va_cwS 1 hts gX5_look_X5_t rfl rfl rfl (by decide +kernel) ⟨Nat.le_of_ble_eq_true rfl, Nat.le_of_ble_eq_true rfl⟩) q_Blind_t (fun _ _ _ => trivial) rfl hl.1 rfl (Nat.le_of_ble_eq_true rfl) dX5_look_112 (Nat.zero_le _) (Nat.zero_le _) ?_
            refine lv_iconst (v := 2) hx hb dX5_look_115 (by decide) ?_
            refine lv_iadd hx hb dX5_look_116 ?_
            refine q_reI (show (((nI (96 + 4 * m1)) + 2) : Int32) = nI (96 + 4 * m1 + 2) from nI_add _ _) ?_
            refine lv_dup2_11 hx hb dX5_look_117 rfl rfl ?_
            refine q_iald (j := (96 + 4 * m1 + 2)) hx hb hK hP 1 0 rfl rfl (by omega) (by decide) dX5_look_118 ?_
            refine q_reI (show (upd (upd (m_s (m_rec M)) (136 + 15 * (t1 * 8 + r1) + 2) (truM (v_now V) t1 r1)) (136 + 15 * (t1 * 8 + r1) + 4) 1 (96 + 4 * m1 + 2) : Int32) = s_fin (v_now V) m1 from (up_ne (by omega)).trans ((up_ne (by omega)).trans (cp_fin hc (by omega)))) ?_
            refine lv_iload hx hb dX5_look_119 (lv_at hl 0 rfl) ?_
            refine lv_iadd hx hb dX5_look_121 ?_
            refine q_iast (j := (96 + 4 * m1 + 2)) hx hb hK hP hD hS 1 0 rfl rfl (by omega) (by decide) dX5_look_122 (fun H locs hP hS => ?_)
            have hP : va_P g.1 vwCl (q_mdW g d (n_s (n_s (n_s (m_rec M) (upd (m_s (m_rec M)) (136 + 15 * (t1 * 8 + r1) + 2) (truM (v_now V) t1 r1))) (upd (upd (m_s (m_rec M)) (136 + 15 * (t1 * 8 + r1) + 2) (truM (v_now V) t1 r1)) (136 + 15 * (t1 * 8 + r1) + 4) 1)) (upd (upd (upd (m_s (m_rec M)) (136 + 15 * (t1 * 8 + r1) + 2) (truM (v_now V) t1 r1)) (136 + 15 * (t1 * 8 + r1) + 4) 1) (96 + 4 * m1 + 2) ((s_fin (v_now V) m1) + 1)))) H := hP
            have hD : va_D (q_mAd d) (q_mdW g d (n_s (n_s (n_s (m_rec M) (upd (m_s (m_rec M)) (136 + 15 * (t1 * 8 + r1) + 2) (truM (v_now V) t1 r1))) (upd (upd (m_s (m_rec M)) (136 + 15 * (t1 * 8 + r1) + 2) (truM (v_now V) t1 r1)) (136 + 15 * (t1 * 8 + r1) + 4) 1)) (upd (upd (upd (m_s (m_rec M)) (136 + 15 * (t1 * 8 + r1) + 2) (truM (v_now V) t1 r1)) (136 + 15 * (t1 * 8 + r1) + 4) 1) (96 + 4 * m1 + 2) ((s_fin (v_now V) m1) + 1)))) := q_mD hJ (fun _ h => h)
            refine lv_aload_n hx hb dX5_look_123 rfl (lv_at hl 2 rfl) ?_
            refine va_get (D := g.1) (ci := 4) (v := .ref (d 1)) (C := RX5) (T := TX5) (N := 7) hx hb hts hi_X5 hown hK hP 0 rfl rfl 0 (by decide) fl_7 (fun _ h9 => h9) rfl dX5_look_124 ?_
            refine lv_bipush (v := 7) hx hb dX5_look_127 (by decide) ?_
            refine lv_dup2_11 hx hb dX5_look_129 rfl rfl ?_
            refine q_iald (j := 7) hx hb hK hP 1 0 rfl rfl (by omega) (by decide) dX5_look_130 ?_
            refine q_reI (show (upd (upd (upd (m_s (m_rec M)) (136 + 15 * (t1 * 8 + r1) + 2) (truM (v_now V) t1 r1)) (136 + 15 * (t1 * 8 + r1) + 4) 1) (96 + 4 * m1 + 2) ((s_fin (v_now V) m1) + 1) 7 : Int32) = looA (v_now V) from (up_ne (by omega)).trans ((up_ne (by omega)).trans ((up_ne (by omega)).trans (cp_loks hc)))) ?_
            refine lv_iconst (v := 1) hx hb dX5_look_131 (by decide) ?_
            refine lv_iadd hx hb dX5_look_132 ?_
            refine q_iast (j := 7) hx hb hK hP hD hS 1 0 rfl rfl (by omega) (by decide) dX5_look_133 (fun H locs hP hS => ?_)
            have hP : va_P g.1 vwCl (q_mdW g d (n_s (n_s (n_s (n_s (m_rec M) (upd (m_s (m_rec M)) (136 + 15 * (t1 * 8 + r1) + 2) (truM (v_now V) t1 r1))) (upd (upd (m_s (m_rec M)) (136 + 15 * (t1 * 8 + r1) + 2) (truM (v_now V) t1 r1)) (136 + 15 * (t1 * 8 + r1) + 4) 1)) (upd (upd (upd (m_s (m_rec M)) (136 + 15 * (t1 * 8 + r1) + 2) (truM (v_now V) t1 r1)) (136 + 15 * (t1 * 8 + r1) + 4) 1) (96 + 4 * m1 + 2) ((s_fin (v_now V) m1) + 1))) (upd (upd (upd (upd (m_s (m_rec M)) (136 + 15 * (t1 * 8 + r1) + 2) (truM (v_now V) t1 r1)) (136 + 15 * (t1 * 8 + r1) + 4) 1) (96 + 4 * m1 + 2) ((s_fin (v_now V) m1) + 1)) 7 ((looA (v_now V)) + 1)))) H := hP
            have hD : va_D (q_mAd d) (q_mdW g d (n_s (n_s (n_s (n_s (m_rec M) (upd (m_s (m_rec M)) (136 + 15 * (t1 * 8 + r1) + 2) (truM (v_now V) t1 r1))) (upd (upd (m_s (m_rec M)) (136 + 15 * (t1 * 8 + r1) + 2) (truM (v_now V) t1 r1)) (136 + 15 * (t1 * 8 + r1) + 4) 1)) (upd (upd (upd (m_s (m_rec M)) (136 + 15 * (t1 * 8 + r1) + 2) (truM (v_now V) t1 r1)) (136 + 15 * (t1 * 8 + r1) + 4) 1) (96 + 4 * m1 + 2) ((s_fin (v_now V) m1) + 1))) (upd (upd (upd (upd (m_s (m_rec M)) (136 + 15 * (t1 * 8 + r1) + 2) (truM (v_now V) t1 r1)) (136 + 15 * (t1 * 8 + r1) + 4) 1) (96 + 4 * m1 + 2) ((s_fin (v_now V) m1) + 1)) 7 ((looA (v_now V)) + 1)))) := q_mD hJ (fun _ h => h)
            refine lv_iload hx hb dX5_look_134 (lv_at hl 0 rfl) ?_
            exact q_miret hx hb hr hlk dX5_look_136 hP hS (by simp [lokR, lokM, lokE, n_ss, bI, ct1, c_5, cr1, c_12, em1, cm1, c_31, c_43, hw1, c_67]) (by simp [lokR, lokM, lokE, n_ss, bI, ct1, c_5, cr1, c_12, em1, cm1, c_31, c_43, hw1, c_67])
          · skip
            have hw1 : wroS (v_now V) t1 r1 = false := by simp [wroS, c_67]
            refine lv_iconst (v := 0) hx hb dX5_look_70 (by decide) ?_
            refine lv_goto (tgt := 75) hx hb dX5_look_71 (by decide) ?_
            refine lv_istore (lv' := [(4, .int 0), (3, .int (nI (136 + 15 * (t1 * 8 + r1)))), (0, .ref (d 0)), (1, .int (nI t1)), (2, .int (nI r1))]) hx hb dX5_look_75 hl (by decide) rfl (fun ls hl => ?_)
            refine lv_aload_n hx hb dX5_look_77 rfl (lv_at hl 2 rfl) ?_
            refine va_get (D := g.1) (ci := 4) (v := .ref (d 1)) (C := RX5) (T := TX5) (N := 7) hx hb hts hi_X5 hown hK hP 0 rfl rfl 0 (by decide) fl_7 (fun _ h9 => h9) rfl dX5_look_78 ?_
            refine lv_iload_n hx hb dX5_look_81 rfl (lv_at hl 1 rfl) ?_
            refine lv_iconst (v := 2) hx hb dX5_look_82 (by decide) ?_
            refine lv_iadd hx hb dX5_look_83 ?_
            refine q_reI (show (((nI (136 + 15 * (t1 * 8 + r1))) + 2) : Int32) = nI (136 + 15 * (t1 * 8 + r1) + 2) from nI_add _ _) ?_
            refine lv_aload_n hx hb dX5_look_84 rfl (lv_at hl 2 rfl) ?_
            refine lv_iload_n hx hb dX5_look_85 rfl (lv_at hl 3 rfl) ?_
            refine lv_iload_n hx hb dX5_look_86 rfl (lv_at hl 4 rfl) ?_
            refine q_V (As := [.int (nI t1), .int (nI r1)]) (rest := [.int (nI (136 + 15 * (t1 * 8 + r1) + 2)), .ref (d 1)]) ⟨hx, hb, hml, hown, hts⟩ (c_X5_trueMark l g d (m_rec M) (v_now V) K hc ho hK5 t1 r1 (by first | omega | assumption) (by first | omega | assumption) (by first | omega | assumption) (by first | omega | assumption)) (cwV 2 hts gX5_look_X5_trueMark rfl rfl rfl (by decide +kernel) ⟨Nat.le_of_ble_eq_true rfl, Nat.le_of_ble_eq_true rfl⟩) q_B_blind (va_recv hK hP (ci := 4) (q0 := 0) rfl rfl) (q_B_of hP hK hN) rfl hl.1 rfl (Nat.le_of_ble_eq_true rfl) dX5_look_87 (Nat.zero_le _) (Nat.zero_le _) ?_
            refine q_iast (j := (136 + 15 * (t1 * 8 + r1) + 2)) hx hb hK hP hD hS 1 0 rfl rfl (by omega) (by decide) dX5_look_90 (fun H locs hP hS => ?_)
            have hP : va_P g.1 vwCl (q_mdW g d (n_s (m_rec M) (upd (m_s (m_rec M)) (136 + 15 * (t1 * 8 + r1) + 2) (truM (v_now V) t1 r1)))) H := hP
            have hD : va_D (q_mAd d) (q_mdW g d (n_s (m_rec M) (upd (m_s (m_rec M)) (136 + 15 * (t1 * 8 + r1) + 2) (truM (v_now V) t1 r1)))) := q_mD hJ (fun _ h => h)
            refine lv_aload_n hx hb dX5_look_91 rfl (lv_at hl 2 rfl) ?_
            refine va_get (D := g.1) (ci := 4) (v := .ref (d 1)) (C := RX5) (T := TX5) (N := 7) hx hb hts hi_X5 hown hK hP 0 rfl rfl 0 (by decide) fl_7 (fun _ h9 => h9) rfl dX5_look_92 ?_
            refine lv_iload_n hx hb dX5_look_95 rfl (lv_at hl 1 rfl) ?_
            refine lv_iconst (v := 4) hx hb dX5_look_96 (by decide) ?_
            refine lv_iadd hx hb dX5_look_97 ?_
            refine q_reI (show (((nI (136 + 15 * (t1 * 8 + r1))) + 4) : Int32) = nI (136 + 15 * (t1 * 8 + r1) + 4) from nI_add _ _) ?_
            refine lv_iconst (v := 1) hx hb dX5_look_98 (by decide) ?_
            refine q_iast (j := (136 + 15 * (t1 * 8 + r1) + 4)) hx hb hK hP hD hS 1 0 rfl rfl (by omega) (by decide) dX5_look_99 (fun H locs hP hS => ?_)
            have hP : va_P g.1 vwCl (q_mdW g d (n_s (n_s (m_rec M) (upd (m_s (m_rec M)) (136 + 15 * (t1 * 8 + r1) + 2) (truM (v_now V) t1 r1))) (upd (upd (m_s (m_rec M)) (136 + 15 * (t1 * 8 + r1) + 2) (truM (v_now V) t1 r1)) (136 + 15 * (t1 * 8 + r1) + 4) 1))) H := hP
            have hD : va_D (q_mAd d) (q_mdW g d (n_s (n_s (m_rec M) (upd (m_s (m_rec M)) (136 + 15 * (t1 * 8 + r1) + 2) (truM (v_now V) t1 r1))) (upd (upd (m_s (m_rec M)) (136 + 15 * (t1 * 8 + r1) + 2) (truM (v_now V) t1 r1)) (136 + 15 * (t1 * 8 + r1) + 4) 1))) := q_mD hJ (fun _ h => h)
            refine lv_aload_n hx hb dX5_look_100 rfl (lv_at hl 2 rfl) ?_
            refine va_get (D := g.1) (ci := 4) (v := .ref (d 1)) (C := RX5) (T := TX5) (N := 7) hx hb hts hi_X5 hown hK hP 0 rfl rfl 0 (by decide) fl_7 (fun _ h9 => h9) rfl dX5_look_101 ?_
            refine lv_aload_n hx hb dX5_look_104 rfl (lv_at hl 2 rfl) ?_
            refine va_get (D := g.1) (ci := 4) (v := .ref (d 1)) (C := RX5) (T := TX5) (N := 7) hx hb hts hi_X5 hown hK hP 0 rfl rfl 0 (by decide) fl_7 (fun _ h9 => h9) rfl dX5_look_105 ?_
            refine lv_iload_n hx hb dX5_look_108 rfl (lv_at hl 1 rfl) ?_
            refine lv_iconst (v := 3) hx hb dX5_look_109 (by decide) ?_
            refine lv_iadd hx hb dX5_look_110 ?_
            refine q_reI (show (((nI (136 + 15 * (t1 * 8 + r1))) + 3) : Int32) = nI (136 + 15 * (t1 * 8 + r1) + 3) from nI_add _ _) ?_
            refine q_iald (j := (136 + 15 * (t1 * 8 + r1) + 3)) hx hb hK hP 1 0 rfl rfl (by omega) (by decide) dX5_look_111 ?_
            refine q_reI (show (upd (upd (m_s (m_rec M)) (136 + 15 * (t1 * 8 + r1) + 2) (truM (v_now V) t1 r1)) (136 + 15 * (t1 * 8 + r1) + 4) 1 (136 + 15 * (t1 * 8 + r1) + 3) : Int32) = nI m1 from (up_ne (by omega)).trans ((up_ne (by omega)).trans ((cp_mkr hc (by omega) (by omega) c_31).trans em1))) ?_
            refine q_S (As := [.int (nI m1)]) (rest := [.ref (d 1)]) ⟨hx, hb, hml, hown, hts⟩ (c_X5_t l m1 ) (va_cwS 1 hts gX5_look_X5_t rfl rfl rfl (by decide +kernel) ⟨Nat.le_of_ble_eq_true rfl, Nat.le_of_ble_eq_true rfl⟩) q_Blind_t (fun _ _ _ => trivial) rfl hl.1 rfl (Nat.le_of_ble_eq_true rfl) dX5_look_112 (Nat.zero_le _) (Nat.zero_le _) ?_
            refine lv_iconst (v := 2) hx hb dX5_look_115 (by decide) ?_
            refine lv_iadd hx hb dX5_look_116 ?_
            refine q_reI (show (((nI (96 + 4 * m1)) + 2) : Int32) = nI (96 + 4 * m1 + 2) from nI_add _ _) ?_
            refine lv_dup2_11 hx hb dX5_look_117 rfl rfl ?_
            refine q_iald (j := (96 + 4 * m1 + 2)) hx hb hK hP 1 0 rfl rfl (by omega) (by decide) dX5_look_118 ?_
            refine q_reI (show (upd (upd (m_s (m_rec M)) (136 + 15 * (t1 * 8 + r1) + 2) (truM (v_now V) t1 r1)) (136 + 15 * (t1 * 8 + r1) + 4) 1 (96 + 4 * m1 + 2) : Int32) = s_fin (v_now V) m1 from (up_ne (by omega)).trans ((up_ne (by omega)).trans (cp_fin hc (by omega)))) ?_
            refine lv_iload hx hb dX5_look_119 (lv_at hl 0 rfl) ?_
            refine lv_iadd hx hb dX5_look_121 ?_
            refine q_iast (j := (96 + 4 * m1 + 2)) hx hb hK hP hD hS 1 0 rfl rfl (by omega) (by decide) dX5_look_122 (fun H locs hP hS => ?_)
            have hP : va_P g.1 vwCl (q_mdW g d (n_s (n_s (n_s (m_rec M) (upd (m_s (m_rec M)) (136 + 15 * (t1 * 8 + r1) + 2) (truM (v_now V) t1 r1))) (upd (upd (m_s (m_rec M)) (136 + 15 * (t1 * 8 + r1) + 2) (truM (v_now V) t1 r1)) (136 + 15 * (t1 * 8 + r1) + 4) 1)) (upd (upd (upd (m_s (m_rec M)) (136 + 15 * (t1 * 8 + r1) + 2) (truM (v_now V) t1 r1)) (136 + 15 * (t1 * 8 + r1) + 4) 1) (96 + 4 * m1 + 2) ((s_fin (v_now V) m1) + 0)))) H := hP
            have hD : va_D (q_mAd d) (q_mdW g d (n_s (n_s (n_s (m_rec M) (upd (m_s (m_rec M)) (136 + 15 * (t1 * 8 + r1) + 2) (truM (v_now V) t1 r1))) (upd (upd (m_s (m_rec M)) (136 + 15 * (t1 * 8 + r1) + 2) (truM (v_now V) t1 r1)) (136 + 15 * (t1 * 8 + r1) + 4) 1)) (upd (upd (upd (m_s (m_rec M)) (136 + 15 * (t1 * 8 + r1) + 2) (truM (v_now V) t1 r1)) (136 + 15 * (t1 * 8 + r1) + 4) 1) (96 + 4 * m1 + 2) ((s_fin (v_now V) m1) + 0)))) := q_mD hJ (fun _ h => h)
            refine lv_aload_n hx hb dX5_look_123 rfl (lv_at hl 2 rfl) ?_
            refine va_get (D := g.1) (ci := 4) (v := .ref (d 1)) (C := RX5) (T := TX5) (N := 7) hx hb hts hi_X5 hown hK hP 0 rfl rfl 0 (by decide) fl_7 (fun _ h9 => h9) rfl dX5_look_124 ?_
            refine lv_bipush (v := 7) hx hb dX5_look_127 (by decide) ?_
            refine lv_dup2_11 hx hb dX5_look_129 rfl rfl ?_
            refine q_iald (j := 7) hx hb hK hP 1 0 rfl rfl (by omega) (by decide) dX5_look_130 ?_
            refine q_reI (show (upd (upd (upd (m_s (m_rec M)) (136 + 15 * (t1 * 8 + r1) + 2) (truM (v_now V) t1 r1)) (136 + 15 * (t1 * 8 + r1) + 4) 1) (96 + 4 * m1 + 2) ((s_fin (v_now V) m1) + 0) 7 : Int32) = looA (v_now V) from (up_ne (by omega)).trans ((up_ne (by omega)).trans ((up_ne (by omega)).trans (cp_loks hc)))) ?_
            refine lv_iconst (v := 1) hx hb dX5_look_131 (by decide) ?_
            refine lv_iadd hx hb dX5_look_132 ?_
            refine q_iast (j := 7) hx hb hK hP hD hS 1 0 rfl rfl (by omega) (by decide) dX5_look_133 (fun H locs hP hS => ?_)
            have hP : va_P g.1 vwCl (q_mdW g d (n_s (n_s (n_s (n_s (m_rec M) (upd (m_s (m_rec M)) (136 + 15 * (t1 * 8 + r1) + 2) (truM (v_now V) t1 r1))) (upd (upd (m_s (m_rec M)) (136 + 15 * (t1 * 8 + r1) + 2) (truM (v_now V) t1 r1)) (136 + 15 * (t1 * 8 + r1) + 4) 1)) (upd (upd (upd (m_s (m_rec M)) (136 + 15 * (t1 * 8 + r1) + 2) (truM (v_now V) t1 r1)) (136 + 15 * (t1 * 8 + r1) + 4) 1) (96 + 4 * m1 + 2) ((s_fin (v_now V) m1) + 0))) (upd (upd (upd (upd (m_s (m_rec M)) (136 + 15 * (t1 * 8 + r1) + 2) (truM (v_now V) t1 r1)) (136 + 15 * (t1 * 8 + r1) + 4) 1) (96 + 4 * m1 + 2) ((s_fin (v_now V) m1) + 0)) 7 ((looA (v_now V)) + 1)))) H := hP
            have hD : va_D (q_mAd d) (q_mdW g d (n_s (n_s (n_s (n_s (m_rec M) (upd (m_s (m_rec M)) (136 + 15 * (t1 * 8 + r1) + 2) (truM (v_now V) t1 r1))) (upd (upd (m_s (m_rec M)) (136 + 15 * (t1 * 8 + r1) + 2) (truM (v_now V) t1 r1)) (136 + 15 * (t1 * 8 + r1) + 4) 1)) (upd (upd (upd (m_s (m_rec M)) (136 + 15 * (t1 * 8 + r1) + 2) (truM (v_now V) t1 r1)) (136 + 15 * (t1 * 8 + r1) + 4) 1) (96 + 4 * m1 + 2) ((s_fin (v_now V) m1) + 0))) (upd (upd (upd (upd (m_s (m_rec M)) (136 + 15 * (t1 * 8 + r1) + 2) (truM (v_now V) t1 r1)) (136 + 15 * (t1 * 8 + r1) + 4) 1) (96 + 4 * m1 + 2) ((s_fin (v_now V) m1) + 0)) 7 ((looA (v_now V)) + 1)))) := q_mD hJ (fun _ h => h)
            refine lv_iload hx hb dX5_look_134 (lv_at hl 0 rfl) ?_
            exact q_miret hx hb hr hlk dX5_look_136 hP hS (by simp [lokR, lokM, lokE, n_ss, bI, ct1, c_5, cr1, c_12, em1, cm1, c_31, c_43, hw1, c_67]) (by simp [lokR, lokM, lokE, n_ss, bI, ct1, c_5, cr1, c_12, em1, cm1, c_31, c_43, hw1, c_67])
        · skip
          have c_43 : (lokS (v_now V) t1 r1) = true := bI_e1 c_43
          refine lv_bipush (v := (-5)) hx hb dX5_look_46 (by decide) ?_
          exact q_miret hx hb hr hlk dX5_look_48 hP hS (by simp [lokR, lokM, lokE, n_ss, bI, ct1, c_5, cr1, c_12, em1, cm1, c_31, c_43]) (by simp [lokR, lokM, lokE, n_ss, bI, ct1, c_5, cr1, c_12, em1, cm1, c_31, c_43])
    · skip
      have c_12 : (isRd y) = false := bI_eq c_12
      refine lv_iconst (v := (-1)) hx hb dX5_look_15 (by decide) ?_
      exact q_miret hx hb hr hlk dX5_look_16 hP hS (by simp [lokR, lokM, lokE, n_ss, bI, ct1, c_5, c_12]) (by simp [lokR, lokM, lokE, n_ss, bI, ct1, c_5, c_12])
