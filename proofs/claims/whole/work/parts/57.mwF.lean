/-! the reference's calls that read the pad -/
theorem tsh_t {C : Nat → Int32} {n : Nat} (h : tshP C n = true) : n = 10 ∧ ∀ k, k < 10 → isSg (C k) = true := fau_iff.mp (of_decide_eq_true h)
theorem tky_t {C : Nat → Int32} {n : Nat} (h : tkyP C n = true) : n = 10 ∧ ∀ k, k < 10 → isDg (C k) = true := by
  unfold tkyP at h
  simp only [Bool.and_eq_true, Bool.not_eq_true'] at h
  refine ⟨(tsh_t h.1).1, fun k hk => ?_⟩
  have := q_any_at h.2 hk
  simpa using this
def hanM (M : q_MV) (V : q_CV) (x y : Int32) : q_MV := if hanE V x y = 0 then n_len (n_s (m_rec M) (ovl (upd (m_s (m_rec M)) (136 + 15 * (tN x * 8 + tN y)) 1) (fun k => hdv (v_pc V k)) (136 + 15 * (tN x * 8 + tN y) + 5) 10)) 0 else M
def keyM (M : q_MV) (V : q_CV) (y : Int32) : q_MV := if keyE V y = 0 then n_len (n_s (m_rec M) (ovl (upd (m_s (m_rec M)) (8 + 11 * tN y) 1) (fun k => v_pc V k - 48) (8 + 11 * tN y + 1) 10)) 0 else M
theorem key_g {C : Nat → Int32} (h : ∀ k, k < 10 → isDg (C k) = true) : ∀ k, k < 10 → (fun k => C k - 48) k = sgn (sigs C 10) k := by
  intro k hk
  rw [sg_k C hk]
  exact sgv_48 (h k hk)
theorem key_o {C : Nat → Int32} (h : ∀ k, k < 10 → isDg (C k) = true) : ∀ k, k < 10 → ∃ d, d ≤ 9 ∧ sgn (sigs C 10) k = nI d := by
  intro k hk
  rw [sg_k C hk]
  exact sgv_dg (h k hk)
theorem han_g {C : Nat → Int32} (h : ∀ k, k < 10 → isSg (C k) = true) : ∀ k, k < 10 → (fun k => hdv (C k)) k = anI (sgn (sigs C 10) k) := by
  intro k hk
  rw [sg_k C hk]
  exact hdv_an (h k hk)
theorem han_o {C : Nat → Int32} (h : ∀ k, k < 10 → isSg (C k) = true) : ∀ k, k < 10 → sgn (sigs C 10) k = 15 ∨ ∃ d, d ≤ 9 ∧ sgn (sigs C 10) k = nI d := by
  intro k hk
  rw [sg_k C hk]
  exact sgv_sg (h k hk)

set_option maxHeartbeats 2000000 in
set_option maxRecDepth 100000 in
theorem c_X5_hand (l : Launch) (g : q_G) (d : Nat → Nat) (M : q_MV) (hJ : q_mInj d) (V : q_CV) (K : Nat) (hc : q_cp (v_now V) (m_s M)) (ho : q_ok K (v_now V)) (hK5 : K ≤ 512) (hpl : v_pl V ≤ 80) (hln : m_len M = v_pl V) (hpd : ∀ k, k < v_pl V → m_pad M k = v_pc V k) (x : Int32) (y : Int32) (h1_ : m_st M ≤ 6) : Met l yX5_hand wsX5_hand { frames := 2, cells := 0, slots := 0, locals := 43 } (va_Pc [.ref (d 0), .int x, .int y] (q_B g (q_mdW g d M))) (q_QM g (q_mAd d) (q_mdW g d (hanM M V x y)) (some (.int (hanR V x y)))) 0 0 (q_mAd d) := by
  refine q_mm (cc := cX5_hand) (maxL := 6) (ret := (some .int)) (by decide) rfl (Nat.le_of_ble_eq_true rfl) ?_
  intro p e s m args below meth c ls hx hb hml hown hts hr hlk hnm hB hag hl
  obtain ⟨hP, hK, hN⟩ := hB
  have hS : va_S (q_mAd d) s.heap s.heap [] := va_S.rf
  have hP : va_P g.1 vwCl (q_mdW g d M) s.heap := hP
  have hD : va_D (q_mAd d) (q_mdW g d M) := q_mD hJ (fun _ h => h)
  have fl_7 := hts (.fieldLink RX5 7 "PubQuizzesModel" "s" "[I") (by decide +kernel)
  have fl_23 := hts (.fieldLink RX5 23 "PubQuizzesModel" "pad" "[C") (by decide +kernel)
  have fl_92 := hts (.fieldLink RX5 92 "PubQuizzesModel" "length" "I") (by decide +kernel)
  have hi_X5 : ∀ w ∈ u_ws RX5 TX5 7, w ∈ wsX5_hand := by decide +kernel
  have hl : lv_has ls 6 [(0, .ref (d 0)), (1, .int x), (2, .int y)] := hl
  have hn10 := ok_n ho
  refine lv_aload_n hx hb dX5_hand_0 rfl (lv_at hl 0 rfl) ?_
  refine lv_iload_n hx hb dX5_hand_1 rfl (lv_at hl 1 rfl) ?_
  refine q_V (As := [.int x]) (rest := []) ⟨hx, hb, hml, hown, hts⟩ (c_X5_isTeam l g d M (v_now V) K hc ho hK5 x ) (cwV 1 hts gX5_hand_X5_isTeam rfl rfl rfl (by decide +kernel) ⟨Nat.le_of_ble_eq_true rfl, Nat.le_of_ble_eq_true rfl⟩) q_B_blind (va_recv hK hP (ci := 4) (q0 := 0) rfl rfl) (q_B_of hP hK hN) rfl hl.1 rfl (Nat.le_of_ble_eq_true rfl) dX5_hand_2 (Nat.zero_le _) (Nat.zero_le _) ?_
  refine lv_if_eq (tgt := 15) hx hb dX5_hand_5 (by decide) (fun c_5 => ?_) (fun c_5 => ?_)
  · skip
    have c_5 : (isTm (v_now V) x) = false := bI_eq c_5
    refine lv_iconst (v := (-1)) hx hb dX5_hand_15 (by decide) ?_
    exact q_miret hx hb hr hlk dX5_hand_16 hP hS (by simp [hanR, hanM, hanE, c_5]) (by simp [hanR, hanM, hanE, c_5])
  · skip
    have c_5 : (isTm (v_now V) x) = true := bI_ne c_5
    obtain ⟨t1, ht1, ht1x, rfl⟩ := isTm_of hn10 c_5
    have ct1 : tN (nI t1) = t1 := tN_n (by omega)
    refine lv_iload_n hx hb dX5_hand_8 rfl (lv_at hl 2 rfl) ?_
    refine q_S (As := [.int y]) (rest := []) ⟨hx, hb, hml, hown, hts⟩ (c_X5_isRound l y ) (va_cwS 1 hts gX5_hand_X5_isRound rfl rfl rfl (by decide +kernel) ⟨Nat.le_of_ble_eq_true rfl, Nat.le_of_ble_eq_true rfl⟩) q_Blind_t (fun _ _ _ => trivial) rfl hl.1 rfl (Nat.le_of_ble_eq_true rfl) dX5_hand_9 (Nat.zero_le _) (Nat.zero_le _) ?_
    refine lv_if_ne (tgt := 17) hx hb dX5_hand_12 (by decide) (fun c_12 => ?_) (fun c_12 => ?_)
    · skip
      have c_12 : (isRd y) = true := bI_ne c_12
      obtain ⟨r1, hr1, rfl⟩ := isRd_of c_12
      have cr1 : tN (nI r1) = r1 := tN_n (by omega)
      refine lv_aload_n hx hb dX5_hand_17 rfl (lv_at hl 0 rfl) ?_
      refine lv_iconst (v := 0) hx hb dX5_hand_18 (by decide) ?_
      refine q_V (As := [.int (bI false)]) (rest := []) ⟨hx, hb, hml, hown, hts⟩ (c_X5_tellsTen l g d M (v_pc V) (v_pl V) hpl hln hpd false ) (cwV 1 hts gX5_hand_X5_tellsTen rfl rfl rfl (by decide +kernel) ⟨Nat.le_of_ble_eq_true rfl, Nat.le_of_ble_eq_true rfl⟩) q_B_blind (va_recv hK hP (ci := 4) (q0 := 0) rfl rfl) (q_B_of hP hK hN) rfl hl.1 rfl (Nat.le_of_ble_eq_true rfl) dX5_hand_19 (Nat.zero_le _) (Nat.zero_le _) ?_
      refine lv_if_ne (tgt := 28) hx hb dX5_hand_22 (by decide) (fun c_22 => ?_) (fun c_22 => ?_)
      · skip
        have c_22 : (tenP (v_pc V) (v_pl V) false) = true := bI_ne c_22
        rw [ten_f] at c_22
        have h10 := (tsh_t c_22).1
        have hsg := (tsh_t c_22).2
        refine lv_iload_n hx hb dX5_hand_28 rfl (lv_at hl 1 rfl) ?_
        refine lv_iload_n hx hb dX5_hand_29 rfl (lv_at hl 2 rfl) ?_
        refine q_S (As := [.int (nI t1), .int (nI r1)]) (rest := []) ⟨hx, hb, hml, hown, hts⟩ (c_X5_h l t1 r1 ) (va_cwS 2 hts gX5_hand_X5_h rfl rfl rfl (by decide +kernel) ⟨Nat.le_of_ble_eq_true rfl, Nat.le_of_ble_eq_true rfl⟩) q_Blind_t (fun _ _ _ => trivial) rfl hl.1 rfl (Nat.le_of_ble_eq_true rfl) dX5_hand_30 (Nat.zero_le _) (Nat.zero_le _) ?_
        refine lv_istore_n (lv' := [(3, .int (nI (136 + 15 * (t1 * 8 + r1)))), (0, .ref (d 0)), (1, .int (nI t1)), (2, .int (nI r1))]) hx hb dX5_hand_33 rfl hl (by decide) rfl (fun ls hl => ?_)
        refine lv_aload_n hx hb dX5_hand_34 rfl (lv_at hl 1 rfl) ?_
        refine lv_iload_n hx hb dX5_hand_35 rfl (lv_at hl 3 rfl) ?_
        refine q_V (As := [.int (nI r1)]) (rest := []) ⟨hx, hb, hml, hown, hts⟩ (c_X5_isOpen l g d M (v_now V) K hc ho hK5 r1 (by first | omega | assumption)) (cwV 1 hts gX5_hand_X5_isOpen rfl rfl rfl (by decide +kernel) ⟨Nat.le_of_ble_eq_true rfl, Nat.le_of_ble_eq_true rfl⟩) q_B_blind (va_recv hK hP (ci := 4) (q0 := 0) rfl rfl) (q_B_of hP hK hN) rfl hl.1 rfl (Nat.le_of_ble_eq_true rfl) dX5_hand_36 (Nat.zero_le _) (Nat.zero_le _) ?_
        refine lv_if_eq (tgt := 54) hx hb dX5_hand_39 (by decide) (fun c_39 => ?_) (fun c_39 => ?_)
        · skip
          have c_39 : (isOp (v_now V) r1) = false := bI_eq c_39
          refine lv_bipush (v := (-5)) hx hb dX5_hand_54 (by decide) ?_
          exact q_miret hx hb hr hlk dX5_hand_56 hP hS (by simp [hanR, hanM, hanE, ct1, c_5, cr1, c_12, c_22, c_39]) (by simp [hanR, hanM, hanE, ct1, c_5, cr1, c_12, c_22, c_39])
        · skip
          have c_39 : (isOp (v_now V) r1) = true := bI_ne c_39
          refine lv_aload_n hx hb dX5_hand_42 rfl (lv_at hl 1 rfl) ?_
          refine va_get (D := g.1) (ci := 4) (v := .ref (d 1)) (C := RX5) (T := TX5) (N := 7) hx hb hts hi_X5 hown hK hP 0 rfl rfl 0 (by decide) fl_7 (fun _ h9 => h9) rfl dX5_hand_43 ?_
          refine lv_iload_n hx hb dX5_hand_46 rfl (lv_at hl 0 rfl) ?_
          refine lv_iconst (v := 0) hx hb dX5_hand_47 (by decide) ?_
          refine lv_iadd hx hb dX5_hand_48 ?_
          refine q_reI (show (((nI (136 + 15 * (t1 * 8 + r1))) + 0) : Int32) = nI (136 + 15 * (t1 * 8 + r1) + 0) from nI_add _ _) ?_
          refine q_iald (j := (136 + 15 * (t1 * 8 + r1) + 0)) hx hb hK hP 1 0 rfl rfl (by omega) (by decide) dX5_hand_49 ?_
          refine q_reI (show (m_s M (136 + 15 * (t1 * 8 + r1) + 0) : Int32) = bI (hasS (v_now V) t1 r1) from cp_has hc (t := t1) (r := r1) (by omega) (by omega)) ?_
          refine lv_iconst (v := 1) hx hb dX5_hand_50 (by decide) ?_
          refine lv_icmp_ne (tgt := 57) hx hb dX5_hand_51 (by decide) (fun c_51 => ?_) (fun c_51 => ?_)
          · skip
            have c_51 : (hasS (v_now V) t1 r1) = false := bI_n1 c_51
            refine lv_aload_n hx hb dX5_hand_57 rfl (lv_at hl 1 rfl) ?_
            refine q_VM (As := []) (rest := []) (st2 := []) ⟨hx, hb, hml, hown, hts⟩ (c_X5_record l g d M hJ  (by first | omega | assumption)) (cwV 0 hts gX5_hand_X5_record rfl rfl rfl (by decide +kernel) ⟨Nat.le_of_ble_eq_true rfl, Nat.le_of_ble_eq_true rfl⟩) q_B_blind (va_recv hK hP (ci := 4) (q0 := 0) rfl rfl) (q_B_of hP hK hN) rfl hl.1 rfl (Nat.le_of_ble_eq_true rfl) dX5_hand_58 (Nat.zero_le _) (Nat.zero_le _) hS (fun _ h => h) rfl rfl rfl (fun H locs hP _ hS _ => ?_)
            have hP : va_P g.1 vwCl (q_mdW g d (m_rec M)) H := hP
            have hD : va_D (q_mAd d) (q_mdW g d (m_rec M)) := q_mD hJ (fun _ h => h)
            have hc : q_cp (v_now V) (m_s (m_rec M)) := by rw [m_recs]; exact hc
            refine lv_aload_n hx hb dX5_hand_61 rfl (lv_at hl 1 rfl) ?_
            refine va_get (D := g.1) (ci := 4) (v := .ref (d 1)) (C := RX5) (T := TX5) (N := 7) hx hb hts hi_X5 hown hK hP 0 rfl rfl 0 (by decide) fl_7 (fun _ h9 => h9) rfl dX5_hand_62 ?_
            refine lv_iload_n hx hb dX5_hand_65 rfl (lv_at hl 0 rfl) ?_
            refine lv_iconst (v := 0) hx hb dX5_hand_66 (by decide) ?_
            refine lv_iadd hx hb dX5_hand_67 ?_
            refine q_reI (show (((nI (136 + 15 * (t1 * 8 + r1))) + 0) : Int32) = nI (136 + 15 * (t1 * 8 + r1) + 0) from nI_add _ _) ?_
            refine lv_iconst (v := 1) hx hb dX5_hand_68 (by decide) ?_
            refine q_iast (j := (136 + 15 * (t1 * 8 + r1) + 0)) hx hb hK hP hD hS 1 0 rfl rfl (by omega) (by decide) dX5_hand_69 (fun H locs hP hS => ?_)
            have hP : va_P g.1 vwCl (q_mdW g d (n_s (m_rec M) (upd (m_s (m_rec M)) (136 + 15 * (t1 * 8 + r1) + 0) 1))) H := hP
            have hD : va_D (q_mAd d) (q_mdW g d (n_s (m_rec M) (upd (m_s (m_rec M)) (136 + 15 * (t1 * 8 + r1) + 0) 1))) := q_mD hJ (fun _ h => h)
            refine lv_iconst (v := 0) hx hb dX5_hand_70 (by decide) ?_
            refine lv_istore (lv' := [(4, .int 0), (3, .int (nI (136 + 15 * (t1 * 8 + r1)))), (0, .ref (d 0)), (1, .int (nI t1)), (2, .int (nI r1))]) hx hb dX5_hand_71 hl (by decide) rfl (fun ls hl => ?_)
            refine lv_iconst (v := 0) hx hb dX5_hand_73 (by decide) ?_
            refine lv_istore (lv' := [(5, .int 0), (4, .int 0), (3, .int (nI (136 + 15 * (t1 * 8 + r1)))), (0, .ref (d 0)), (1, .int (nI t1)), (2, .int (nI r1))]) hx hb dX5_hand_74 hl (by decide) rfl (fun ls hl => ?_)
            have L_76 : ∀ (fu i76 : Nat) (y4_76 : Int32) (H : Heap) (locs : List Loc), y4_76 = nI (q_cnt (fun k => !decide (v_pc V k = 45)) i76) → va_P g.1 vwCl (q_mdW g d (n_s (m_rec M) (ovl (upd (m_s (m_rec M)) (136 + 15 * (t1 * 8 + r1)) 1) (fun k => hdv (v_pc V k)) (136 + 15 * (t1 * 8 + r1) + 5) i76))) H → va_S (q_mAd d) s.heap H locs → i76 ≤ 10 → 10 < i76 + fu → ∀ ls : Array Slot, lv_has ls 6 [(5, .int (nI i76)), (4, .int y4_76), (3, .int (nI (136 + 15 * (t1 * 8 + r1)))), (0, .ref (d 0)), (1, .int (nI t1)), (2, .int (nI r1))] → W p l e { frames := 2, cells := 0, slots := 0, locals := 43 } s m args below meth c H locs 0 0 (MQ below (q_QM g (q_mAd d) (q_mdW g d (hanM M V (nI t1) (nI r1))) (some (.int (hanR V (nI t1) (nI r1))))) args s 0 0 (q_mAd d)) (F0 m 76 ls []) := by
              intro fu
              induction fu with
              | zero => intro i76 y4_76 H locs ey4_76 hP hS hi_i76 hn_i76; exact absurd hn_i76 (by omega)
              | succ fu ih_i76 =>
                intro i76 y4_76 H locs ey4_76 hP hS hi_i76 hn_i76 ls hl
                subst ey4_76
                have hD : va_D (q_mAd d) (q_mdW g d (n_s (m_rec M) (ovl (upd (m_s (m_rec M)) (136 + 15 * (t1 * 8 + r1)) 1) (fun k => hdv (v_pc V k)) (136 + 15 * (t1 * 8 + r1) + 5) i76))) := q_mD hJ (fun _ h => h)
                refine lv_iload hx hb dX5_hand_76 (lv_at hl 0 rfl) ?_
                refine lv_bipush (v := 10) hx hb dX5_hand_78 (by decide) ?_
                refine lv_icmp_ge (tgt := 148) hx hb dX5_hand_80 (by decide) (fun c_80 => ?_) (fun c_80 => ?_)
                · skip
                  have e_80 : i76 = 10 := q_ge_T (by omega) hi_i76 c_80
                  subst e_80
                  refine lv_aload_n hx hb dX5_hand_148 rfl (lv_at hl 3 rfl) ?_
                  refine lv_iconst (v := 0) hx hb dX5_hand_149 (by decide) ?_
                  refine va_put (D := g.1) (ci := 4) (v := .int 0) (ty := .int) (C := RX5) (T := TX5) (N := 7) hx hb hts hi_X5 tyX5 tyX5_ok nmX5 hown hK hP hD hS 0 rfl rfl 5 (by decide) fl_92 (fun _ h9 => h9) rfl (by decide +kernel) rfl rfl (Nat.le_of_ble_eq_true rfl) dX5_hand_150 (fun H locs hP _ hS => ?_)
                  have hP : va_P g.1 vwCl (q_mdW g d (n_len (n_s (m_rec M) (ovl (upd (m_s (m_rec M)) (136 + 15 * (t1 * 8 + r1)) 1) (fun k => hdv (v_pc V k)) (136 + 15 * (t1 * 8 + r1) + 5) 10)) 0)) H := hP
                  have hD : va_D (q_mAd d) (q_mdW g d (n_len (n_s (m_rec M) (ovl (upd (m_s (m_rec M)) (136 + 15 * (t1 * 8 + r1)) 1) (fun k => hdv (v_pc V k)) (136 + 15 * (t1 * 8 + r1) + 5) 10)) 0)) := q_mD hJ (fun _ h => h)
                  refine lv_iload hx hb dX5_hand_153 (lv_at hl 1 rfl) ?_
                  exact q_miret hx hb hr hlk dX5_hand_155 hP hS ((congrArg nI (han_cnt (S := v_now V) (t := t1) (r := r1) hsg)).trans (by simp [hanR, hanE, ct1, c_5, cr1, c_12, c_22, c_39, c_51])) (by simp [hanR, hanM, hanE, ct1, c_5, cr1, c_12, c_22, c_39, c_51])
                · skip
                  have lt_i76 : i76 < 10 := q_ge_F (by omega) hi_i76 c_80
                  refine lv_aload_n hx hb dX5_hand_83 rfl (lv_at hl 3 rfl) ?_
                  refine va_get (D := g.1) (ci := 4) (v := .ref (d 1)) (C := RX5) (T := TX5) (N := 7) hx hb hts hi_X5 hown hK hP 0 rfl rfl 0 (by decide) fl_7 (fun _ h9 => h9) rfl dX5_hand_84 ?_
                  refine lv_iload_n hx hb dX5_hand_87 rfl (lv_at hl 2 rfl) ?_
                  refine lv_iconst (v := 5) hx hb dX5_hand_88 (by decide) ?_
                  refine lv_iadd hx hb dX5_hand_89 ?_
                  refine q_reI (show (((nI (136 + 15 * (t1 * 8 + r1))) + 5) : Int32) = nI (136 + 15 * (t1 * 8 + r1) + 5) from nI_add _ _) ?_
                  refine lv_iload hx hb dX5_hand_90 (lv_at hl 0 rfl) ?_
                  refine lv_iadd hx hb dX5_hand_92 ?_
                  refine q_reI (show (((nI (136 + 15 * (t1 * 8 + r1) + 5)) + (nI i76)) : Int32) = nI (136 + 15 * (t1 * 8 + r1) + 5 + i76) from nI_add _ _) ?_
                  refine lv_aload_n hx hb dX5_hand_93 rfl (lv_at hl 3 rfl) ?_
                  refine va_get (D := g.1) (ci := 4) (v := .ref (d 5)) (C := RX5) (T := TX5) (N := 7) hx hb hts hi_X5 hown hK hP 0 rfl rfl 4 (by decide) fl_23 (fun _ h9 => h9) rfl dX5_hand_94 ?_
                  refine lv_iload hx hb dX5_hand_97 (lv_at hl 0 rfl) ?_
                  refine q_cald (j := i76) hx hb hK hP 5 3 rfl rfl (by omega) (by decide) dX5_hand_99 ?_
                  refine q_reI (show (m_pad (m_rec M) i76 : Int32) = v_pc V i76 from (congrFun (m_recp M) _).trans (hpd _ (by omega))) ?_
                  refine lv_bipush (v := 45) hx hb dX5_hand_100 (by decide) ?_
                  refine lv_icmp_ne (tgt := 109) hx hb dX5_hand_102 (by decide) (fun c_102 => ?_) (fun c_102 => ?_)
                  · skip
                    refine lv_aload_n hx hb dX5_hand_109 rfl (lv_at hl 3 rfl) ?_
                    refine va_get (D := g.1) (ci := 4) (v := .ref (d 5)) (C := RX5) (T := TX5) (N := 7) hx hb hts hi_X5 hown hK hP 0 rfl rfl 4 (by decide) fl_23 (fun _ h9 => h9) rfl dX5_hand_110 ?_
                    refine lv_iload hx hb dX5_hand_113 (lv_at hl 0 rfl) ?_
                    refine q_cald (j := i76) hx hb hK hP 5 3 rfl rfl (by omega) (by decide) dX5_hand_115 ?_
                    refine q_reI (show (m_pad (m_rec M) i76 : Int32) = v_pc V i76 from (congrFun (m_recp M) _).trans (hpd _ (by omega))) ?_
                    refine lv_bipush (v := 48) hx hb dX5_hand_116 (by decide) ?_
                    refine lv_isub hx hb dX5_hand_118 ?_
                    refine q_iast (j := (136 + 15 * (t1 * 8 + r1) + 5 + i76)) hx hb hK hP hD hS 1 0 rfl rfl (by omega) (by decide) dX5_hand_119 (fun H locs hP hS => ?_)
                    have hP : va_P g.1 vwCl (q_mdW g d (n_s (n_s (m_rec M) (ovl (upd (m_s (m_rec M)) (136 + 15 * (t1 * 8 + r1)) 1) (fun k => hdv (v_pc V k)) (136 + 15 * (t1 * 8 + r1) + 5) i76)) (upd (ovl (upd (m_s (m_rec M)) (136 + 15 * (t1 * 8 + r1)) 1) (fun k => hdv (v_pc V k)) (136 + 15 * (t1 * 8 + r1) + 5) i76) (136 + 15 * (t1 * 8 + r1) + 5 + i76) ((v_pc V i76) - 48)))) H := hP
                    have hD : va_D (q_mAd d) (q_mdW g d (n_s (n_s (m_rec M) (ovl (upd (m_s (m_rec M)) (136 + 15 * (t1 * 8 + r1)) 1) (fun k => hdv (v_pc V k)) (136 + 15 * (t1 * 8 + r1) + 5) i76)) (upd (ovl (upd (m_s (m_rec M)) (136 + 15 * (t1 * 8 + r1)) 1) (fun k => hdv (v_pc V k)) (136 + 15 * (t1 * 8 + r1) + 5) i76) (136 + 15 * (t1 * 8 + r1) + 5 + i76) ((v_pc V i76) - 48)))) := q_mD hJ (fun _ h => h)
                    refine lv_iload hx hb dX5_hand_120 (lv_at hl 1 rfl) ?_
                    refine lv_aload_n hx hb dX5_hand_122 rfl (lv_at hl 3 rfl) ?_
                    refine va_get (D := g.1) (ci := 4) (v := .ref (d 5)) (C := RX5) (T := TX5) (N := 7) hx hb hts hi_X5 hown hK hP 0 rfl rfl 4 (by decide) fl_23 (fun _ h9 => h9) rfl dX5_hand_123 ?_
                    refine lv_iload hx hb dX5_hand_126 (lv_at hl 0 rfl) ?_
                    refine q_cald (j := i76) hx hb hK hP 5 3 rfl rfl (by omega) (by decide) dX5_hand_128 ?_
                    refine q_reI (show (m_pad (m_rec M) i76 : Int32) = v_pc V i76 from (congrFun (m_recp M) _).trans (hpd _ (by omega))) ?_
                    refine lv_bipush (v := 45) hx hb dX5_hand_129 (by decide) ?_
                    refine lv_icmp_ne (tgt := 138) hx hb dX5_hand_131 (by decide) (fun c_131 => ?_) (fun c_131 => ?_)
                    · skip
                      refine lv_iconst (v := 1) hx hb dX5_hand_138 (by decide) ?_
                      refine lv_iadd hx hb dX5_hand_139 ?_
                      refine q_reI (show (((nI (q_cnt (fun k => !decide (v_pc V k = 45)) i76)) + 1) : Int32) = nI (q_cnt (fun k => !decide (v_pc V k = 45)) i76 + 1) from nI_add _ _) ?_
                      refine lv_istore (lv' := [(4, .int (nI (q_cnt (fun k => !decide (v_pc V k = 45)) i76 + 1))), (5, .int (nI i76)), (3, .int (nI (136 + 15 * (t1 * 8 + r1)))), (0, .ref (d 0)), (1, .int (nI t1)), (2, .int (nI r1))]) hx hb dX5_hand_140 hl (by decide) rfl (fun ls hl => ?_)
                      refine lv_iinc (v := nI (i76 + 1)) (lv' := [(5, .int (nI (i76 + 1))), (4, .int (nI (q_cnt (fun k => !decide (v_pc V k = 45)) i76 + 1))), (3, .int (nI (136 + 15 * (t1 * 8 + r1)))), (0, .ref (d 0)), (1, .int (nI t1)), (2, .int (nI r1))]) hx hb dX5_hand_142 hl (k := 1) rfl (nI_1 _) (by decide) rfl (fun ls hl => ?_)
                      refine lv_goto (tgt := 76) hx hb dX5_hand_145 (by decide) ?_
                      exact ih_i76 (i76 + 1) (nI (q_cnt (fun k => !decide (v_pc V k = 45)) i76 + 1)) _ _ (by first | (simp [q_acc, q_or, q_cnt, q_any, nI_1, hanR, hanM, hanE, ct1, c_5, cr1, c_12, c_22, c_39, c_51, c_102]; done) | rfl) (by rw [← ovl_s]; simp only [hdv, if_pos ct1, if_pos c_5, if_pos cr1, if_pos c_12, if_pos c_22, if_pos c_39, if_neg (Bool.eq_false_iff.mp c_51), if_neg c_102]; exact hP) hS lt_i76 (by omega) ls (lv_sub hl [0, 1, 2, 3, 4, 5] rfl)
                    · skip
                      exact absurd c_131 c_102
                  · skip
                    refine lv_iconst (v := (-1)) hx hb dX5_hand_105 (by decide) ?_
                    refine lv_goto (tgt := 119) hx hb dX5_hand_106 (by decide) ?_
                    refine q_iast (j := (136 + 15 * (t1 * 8 + r1) + 5 + i76)) hx hb hK hP hD hS 1 0 rfl rfl (by omega) (by decide) dX5_hand_119 (fun H locs hP hS => ?_)
                    have hP : va_P g.1 vwCl (q_mdW g d (n_s (n_s (m_rec M) (ovl (upd (m_s (m_rec M)) (136 + 15 * (t1 * 8 + r1)) 1) (fun k => hdv (v_pc V k)) (136 + 15 * (t1 * 8 + r1) + 5) i76)) (upd (ovl (upd (m_s (m_rec M)) (136 + 15 * (t1 * 8 + r1)) 1) (fun k => hdv (v_pc V k)) (136 + 15 * (t1 * 8 + r1) + 5) i76) (136 + 15 * (t1 * 8 + r1) + 5 + i76) (-1)))) H := hP
                    have hD : va_D (q_mAd d) (q_mdW g d (n_s (n_s (m_rec M) (ovl (upd (m_s (m_rec M)) (136 + 15 * (t1 * 8 + r1)) 1) (fun k => hdv (v_pc V k)) (136 + 15 * (t1 * 8 + r1) + 5) i76)) (upd (ovl (upd (m_s (m_rec M)) (136 + 15 * (t1 * 8 + r1)) 1) (fun k => hdv (v_pc V k)) (136 + 15 * (t1 * 8 + r1) + 5) i76) (136 + 15 * (t1 * 8 + r1) + 5 + i76) (-1)))) := q_mD hJ (fun _ h => h)
                    refine lv_iload hx hb dX5_hand_120 (lv_at hl 1 rfl) ?_
                    refine lv_aload_n hx hb dX5_hand_122 rfl (lv_at hl 3 rfl) ?_
                    refine va_get (D := g.1) (ci := 4) (v := .ref (d 5)) (C := RX5) (T := TX5) (N := 7) hx hb hts hi_X5 hown hK hP 0 rfl rfl 4 (by decide) fl_23 (fun _ h9 => h9) rfl dX5_hand_123 ?_
                    refine lv_iload hx hb dX5_hand_126 (lv_at hl 0 rfl) ?_
                    refine q_cald (j := i76) hx hb hK hP 5 3 rfl rfl (by omega) (by decide) dX5_hand_128 ?_
                    refine q_reI (show (m_pad (m_rec M) i76 : Int32) = v_pc V i76 from (congrFun (m_recp M) _).trans (hpd _ (by omega))) ?_
                    refine lv_bipush (v := 45) hx hb dX5_hand_129 (by decide) ?_
                    refine lv_icmp_ne (tgt := 138) hx hb dX5_hand_131 (by decide) (fun c_131 => ?_) (fun c_131 => ?_)
                    · skip
                      exact absurd c_102 c_131
                    · skip
                      refine lv_iconst (v := 0) hx hb dX5_hand_134 (by decide) ?_
                      refine lv_goto (tgt := 139) hx hb dX5_hand_135 (by decide) ?_
                      refine lv_iadd hx hb dX5_hand_139 ?_
                      refine q_reI (show (((nI (q_cnt (fun k => !decide (v_pc V k = 45)) i76)) + 0) : Int32) = nI (q_cnt (fun k => !decide (v_pc V k = 45)) i76 + 0) from nI_add _ _) ?_
                      refine lv_istore (lv' := [(4, .int (nI (q_cnt (fun k => !decide (v_pc V k = 45)) i76 + 0))), (5, .int (nI i76)), (3, .int (nI (136 + 15 * (t1 * 8 + r1)))), (0, .ref (d 0)), (1, .int (nI t1)), (2, .int (nI r1))]) hx hb dX5_hand_140 hl (by decide) rfl (fun ls hl => ?_)
                      refine lv_iinc (v := nI (i76 + 1)) (lv' := [(5, .int (nI (i76 + 1))), (4, .int (nI (q_cnt (fun k => !decide (v_pc V k = 45)) i76 + 0))), (3, .int (nI (136 + 15 * (t1 * 8 + r1)))), (0, .ref (d 0)), (1, .int (nI t1)), (2, .int (nI r1))]) hx hb dX5_hand_142 hl (k := 1) rfl (nI_1 _) (by decide) rfl (fun ls hl => ?_)
                      refine lv_goto (tgt := 76) hx hb dX5_hand_145 (by decide) ?_
                      exact ih_i76 (i76 + 1) (nI (q_cnt (fun k => !decide (v_pc V k = 45)) i76 + 0)) _ _ (by first | (simp [q_acc, q_or, q_cnt, q_any, nI_1, hanR, hanM, hanE, ct1, c_5, cr1, c_12, c_22, c_39, c_51, c_102]; done) | rfl) (by rw [← ovl_s]; simp only [hdv, if_pos ct1, if_pos c_5, if_pos cr1, if_pos c_12, if_pos c_22, if_pos c_39, if_neg (Bool.eq_false_iff.mp c_51), if_pos c_102]; exact hP) hS lt_i76 (by omega) ls (lv_sub hl [0, 1, 2, 3, 4, 5] rfl)
            exact L_76 (10 + 1) 0 0 _ _ (rfl) (by rw [ovl_0]; exact hP) hS (Nat.zero_le _) (by omega) ls (lv_sub hl [0, 1, 2, 3, 4, 5] rfl)
          · skip
            have c_51 : (hasS (v_now V) t1 r1) = true := bI_e1 c_51
            refine lv_bipush (v := (-5)) hx hb dX5_hand_54 (by decide) ?_
            exact q_miret hx hb hr hlk dX5_hand_56 hP hS (by simp [hanR, hanM, hanE, ct1, c_5, cr1, c_12, c_22, c_39, c_51]) (by simp [hanR, hanM, hanE, ct1, c_5, cr1, c_12, c_22, c_39, c_51])
      · skip
        have c_22 : (tenP (v_pc V) (v_pl V) false) = false := bI_eq c_22
        rw [ten_f] at c_22
        refine lv_bipush (v := (-3)) hx hb dX5_hand_25 (by decide) ?_
        exact q_miret hx hb hr hlk dX5_hand_27 hP hS (by simp [hanR, hanM, hanE, ct1, c_5, cr1, c_12, c_22]) (by simp [hanR, hanM, hanE, ct1, c_5, cr1, c_12, c_22])
    · skip
      have c_12 : (isRd y) = false := bI_eq c_12
      refine lv_iconst (v := (-1)) hx hb dX5_hand_15 (by decide) ?_
      exact q_miret hx hb hr hlk dX5_hand_16 hP hS (by simp [hanR, hanM, hanE, ct1, c_5, c_12]) (by simp [hanR, hanM, hanE, ct1, c_5, c_12])

set_option maxHeartbeats 2000000 in
set_option maxRecDepth 100000 in
theorem c_X5_key (l : Launch) (g : q_G) (d : Nat → Nat) (M : q_MV) (hJ : q_mInj d) (V : q_CV) (K : Nat) (hc : q_cp (v_now V) (m_s M)) (ho : q_ok K (v_now V)) (hK5 : K ≤ 512) (hpl : v_pl V ≤ 80) (hln : m_len M = v_pl V) (hpd : ∀ k, k < v_pl V → m_pad M k = v_pc V k) (y : Int32) (h1_ : m_st M ≤ 6) : Met l yX5_key wsX5_key { frames := 2, cells := 0, slots := 0, locals := 47 } (va_Pc [.ref (d 0), .int y] (q_B g (q_mdW g d M))) (q_QM g (q_mAd d) (q_mdW g d (keyM M V y)) (some (.int (keyR V y)))) 0 0 (q_mAd d) := by
  refine q_mm (cc := cX5_key) (maxL := 3) (ret := (some .int)) (by decide) rfl (Nat.le_of_ble_eq_true rfl) ?_
  intro p e s m args below meth c ls hx hb hml hown hts hr hlk hnm hB hag hl
  obtain ⟨hP, hK, hN⟩ := hB
  have hS : va_S (q_mAd d) s.heap s.heap [] := va_S.rf
  have hP : va_P g.1 vwCl (q_mdW g d M) s.heap := hP
  have hD : va_D (q_mAd d) (q_mdW g d M) := q_mD hJ (fun _ h => h)
  have fl_7 := hts (.fieldLink RX5 7 "PubQuizzesModel" "s" "[I") (by decide +kernel)
  have fl_23 := hts (.fieldLink RX5 23 "PubQuizzesModel" "pad" "[C") (by decide +kernel)
  have fl_92 := hts (.fieldLink RX5 92 "PubQuizzesModel" "length" "I") (by decide +kernel)
  have hi_X5 : ∀ w ∈ u_ws RX5 TX5 7, w ∈ wsX5_key := by decide +kernel
  have hl : lv_has ls 3 [(0, .ref (d 0)), (1, .int y)] := hl
  have hn10 := ok_n ho
  refine lv_iload_n hx hb dX5_key_0 rfl (lv_at hl 1 rfl) ?_
  refine q_S (As := [.int y]) (rest := []) ⟨hx, hb, hml, hown, hts⟩ (c_X5_isRound l y ) (va_cwS 1 hts gX5_key_X5_isRound rfl rfl rfl (by decide +kernel) ⟨Nat.le_of_ble_eq_true rfl, Nat.le_of_ble_eq_true rfl⟩) q_Blind_t (fun _ _ _ => trivial) rfl hl.1 rfl (Nat.le_of_ble_eq_true rfl) dX5_key_1 (Nat.zero_le _) (Nat.zero_le _) ?_
  refine lv_if_ne (tgt := 9) hx hb dX5_key_4 (by decide) (fun c_4 => ?_) (fun c_4 => ?_)
  · skip
    have c_4 : (isRd y) = true := bI_ne c_4
    obtain ⟨r1, hr1, rfl⟩ := isRd_of c_4
    have cr1 : tN (nI r1) = r1 := tN_n (by omega)
    refine lv_aload_n hx hb dX5_key_9 rfl (lv_at hl 0 rfl) ?_
    refine lv_iconst (v := 1) hx hb dX5_key_10 (by decide) ?_
    refine q_V (As := [.int (bI true)]) (rest := []) ⟨hx, hb, hml, hown, hts⟩ (c_X5_tellsTen l g d M (v_pc V) (v_pl V) hpl hln hpd true ) (cwV 1 hts gX5_key_X5_tellsTen rfl rfl rfl (by decide +kernel) ⟨Nat.le_of_ble_eq_true rfl, Nat.le_of_ble_eq_true rfl⟩) q_B_blind (va_recv hK hP (ci := 4) (q0 := 0) rfl rfl) (q_B_of hP hK hN) rfl hl.1 rfl (Nat.le_of_ble_eq_true rfl) dX5_key_11 (Nat.zero_le _) (Nat.zero_le _) ?_
    refine lv_if_ne (tgt := 20) hx hb dX5_key_14 (by decide) (fun c_14 => ?_) (fun c_14 => ?_)
    · skip
      have c_14 : (tenP (v_pc V) (v_pl V) true) = true := bI_ne c_14
      rw [ten_t] at c_14
      have h10 := (tky_t c_14).1
      have hdg := (tky_t c_14).2
      refine lv_aload_n hx hb dX5_key_20 rfl (lv_at hl 0 rfl) ?_
      refine lv_iload_n hx hb dX5_key_21 rfl (lv_at hl 1 rfl) ?_
      refine q_V (As := [.int (nI r1)]) (rest := []) ⟨hx, hb, hml, hown, hts⟩ (c_X5_isOpen l g d M (v_now V) K hc ho hK5 r1 (by first | omega | assumption)) (cwV 1 hts gX5_key_X5_isOpen rfl rfl rfl (by decide +kernel) ⟨Nat.le_of_ble_eq_true rfl, Nat.le_of_ble_eq_true rfl⟩) q_B_blind (va_recv hK hP (ci := 4) (q0 := 0) rfl rfl) (q_B_of hP hK hN) rfl hl.1 rfl (Nat.le_of_ble_eq_true rfl) dX5_key_22 (Nat.zero_le _) (Nat.zero_le _) ?_
      refine lv_if_ne (tgt := 31) hx hb dX5_key_25 (by decide) (fun c_25 => ?_) (fun c_25 => ?_)
      · skip
        have c_25 : (isOp (v_now V) r1) = true := bI_ne c_25
        refine lv_aload_n hx hb dX5_key_31 rfl (lv_at hl 0 rfl) ?_
        refine q_VM (As := []) (rest := []) (st2 := []) ⟨hx, hb, hml, hown, hts⟩ (c_X5_record l g d M hJ  (by first | omega | assumption)) (cwV 0 hts gX5_key_X5_record rfl rfl rfl (by decide +kernel) ⟨Nat.le_of_ble_eq_true rfl, Nat.le_of_ble_eq_true rfl⟩) q_B_blind (va_recv hK hP (ci := 4) (q0 := 0) rfl rfl) (q_B_of hP hK hN) rfl hl.1 rfl (Nat.le_of_ble_eq_true rfl) dX5_key_32 (Nat.zero_le _) (Nat.zero_le _) hS (fun _ h => h) rfl rfl rfl (fun H locs hP _ hS _ => ?_)
        have hP : va_P g.1 vwCl (q_mdW g d (m_rec M)) H := hP
        have hD : va_D (q_mAd d) (q_mdW g d (m_rec M)) := q_mD hJ (fun _ h => h)
        have hc : q_cp (v_now V) (m_s (m_rec M)) := by rw [m_recs]; exact hc
        refine lv_aload_n hx hb dX5_key_35 rfl (lv_at hl 0 rfl) ?_
        refine va_get (D := g.1) (ci := 4) (v := .ref (d 1)) (C := RX5) (T := TX5) (N := 7) hx hb hts hi_X5 hown hK hP 0 rfl rfl 0 (by decide) fl_7 (fun _ h9 => h9) rfl dX5_key_36 ?_
        refine lv_iload_n hx hb dX5_key_39 rfl (lv_at hl 1 rfl) ?_
        refine q_S (As := [.int (nI r1)]) (rest := [.ref (d 1)]) ⟨hx, hb, hml, hown, hts⟩ (c_X5_r l r1 ) (va_cwS 1 hts gX5_key_X5_r rfl rfl rfl (by decide +kernel) ⟨Nat.le_of_ble_eq_true rfl, Nat.le_of_ble_eq_true rfl⟩) q_Blind_t (fun _ _ _ => trivial) rfl hl.1 rfl (Nat.le_of_ble_eq_true rfl) dX5_key_40 (Nat.zero_le _) (Nat.zero_le _) ?_
        refine lv_iconst (v := 1) hx hb dX5_key_43 (by decide) ?_
        refine q_iast (j := (8 + 11 * r1)) hx hb hK hP hD hS 1 0 rfl rfl (by omega) (by decide) dX5_key_44 (fun H locs hP hS => ?_)
        have hP : va_P g.1 vwCl (q_mdW g d (n_s (m_rec M) (upd (m_s (m_rec M)) (8 + 11 * r1) 1))) H := hP
        have hD : va_D (q_mAd d) (q_mdW g d (n_s (m_rec M) (upd (m_s (m_rec M)) (8 + 11 * r1) 1))) := q_mD hJ (fun _ h => h)
        refine lv_iconst (v := 0) hx hb dX5_key_45 (by decide) ?_
        refine lv_istore_n (lv' := [(2, .int 0), (0, .ref (d 0)), (1, .int (nI r1))]) hx hb dX5_key_46 rfl hl (by decide) rfl (fun ls hl => ?_)
        have L_47 : ∀ (fu i47 : Nat) (H : Heap) (locs : List Loc), va_P g.1 vwCl (q_mdW g d (n_s (m_rec M) (ovl (upd (m_s (m_rec M)) (8 + 11 * r1) 1) (fun k => v_pc V k - 48) (8 + 11 * r1 + 1) i47))) H → va_S (q_mAd d) s.heap H locs → i47 ≤ 10 → 10 < i47 + fu → ∀ ls : Array Slot, lv_has ls 3 [(2, .int (nI i47)), (0, .ref (d 0)), (1, .int (nI r1))] → W p l e { frames := 2, cells := 0, slots := 0, locals := 47 } s m args below meth c H locs 0 0 (MQ below (q_QM g (q_mAd d) (q_mdW g d (keyM M V (nI r1))) (some (.int (keyR V (nI r1))))) args s 0 0 (q_mAd d)) (F0 m 47 ls []) := by
          intro fu
          induction fu with
          | zero => intro i47 H locs hP hS hi_i47 hn_i47; exact absurd hn_i47 (by omega)
          | succ fu ih_i47 =>
            intro i47 H locs hP hS hi_i47 hn_i47 ls hl
            have hD : va_D (q_mAd d) (q_mdW g d (n_s (m_rec M) (ovl (upd (m_s (m_rec M)) (8 + 11 * r1) 1) (fun k => v_pc V k - 48) (8 + 11 * r1 + 1) i47))) := q_mD hJ (fun _ h => h)
            refine lv_iload_n hx hb dX5_key_47 rfl (lv_at hl 0 rfl) ?_
            refine lv_bipush (v := 10) hx hb dX5_key_48 (by decide) ?_
            refine lv_icmp_ge (tgt := 81) hx hb dX5_key_50 (by decide) (fun c_50 => ?_) (fun c_50 => ?_)
            · skip
              have e_50 : i47 = 10 := q_ge_T (by omega) hi_i47 c_50
              subst e_50
              refine lv_aload_n hx hb dX5_key_81 rfl (lv_at hl 1 rfl) ?_
              refine lv_iconst (v := 0) hx hb dX5_key_82 (by decide) ?_
              refine va_put (D := g.1) (ci := 4) (v := .int 0) (ty := .int) (C := RX5) (T := TX5) (N := 7) hx hb hts hi_X5 tyX5 tyX5_ok nmX5 hown hK hP hD hS 0 rfl rfl 5 (by decide) fl_92 (fun _ h9 => h9) rfl (by decide +kernel) rfl rfl (Nat.le_of_ble_eq_true rfl) dX5_key_83 (fun H locs hP _ hS => ?_)
              have hP : va_P g.1 vwCl (q_mdW g d (n_len (n_s (m_rec M) (ovl (upd (m_s (m_rec M)) (8 + 11 * r1) 1) (fun k => v_pc V k - 48) (8 + 11 * r1 + 1) 10)) 0)) H := hP
              have hD : va_D (q_mAd d) (q_mdW g d (n_len (n_s (m_rec M) (ovl (upd (m_s (m_rec M)) (8 + 11 * r1) 1) (fun k => v_pc V k - 48) (8 + 11 * r1 + 1) 10)) 0)) := q_mD hJ (fun _ h => h)
              have hc : q_cp (keyS (v_now V) r1 (sigs (v_pc V) 10)) (m_s (n_len (n_s (m_rec M) (ovl (upd (m_s (m_rec M)) (8 + 11 * r1) 1) (fun k => v_pc V k - 48) (8 + 11 * r1 + 1) 10)) 0)) := cp_keyu hc (by omega) (sg_ne _) (key_g hdg)
              have ho : q_ok K (keyS (v_now V) r1 (sigs (v_pc V) 10)) := ok_keyu ho (by omega) (sg_ne _) (key_o hdg)
              have hn11 : s_n (keyS (v_now V) r1 (sigs (v_pc V) 10)) ≤ 10 := ok_n ho
              refine lv_aload_n hx hb dX5_key_86 rfl (lv_at hl 1 rfl) ?_
              refine lv_iload_n hx hb dX5_key_87 rfl (lv_at hl 2 rfl) ?_
              refine lv_iconst (v := 1) hx hb dX5_key_88 (by decide) ?_
              refine q_V (As := [.int (nI r1), .int 1]) (rest := []) ⟨hx, hb, hml, hown, hts⟩ (c_X5_teamsOf l g d (n_len (n_s (m_rec M) (ovl (upd (m_s (m_rec M)) (8 + 11 * r1) 1) (fun k => v_pc V k - 48) (8 + 11 * r1 + 1) 10)) 0) (keyS (v_now V) r1 (sigs (v_pc V) 10)) K hc ho hK5 r1 1 (by first | omega | assumption)) (cwV 2 hts gX5_key_X5_teamsOf rfl rfl rfl (by decide +kernel) ⟨Nat.le_of_ble_eq_true rfl, Nat.le_of_ble_eq_true rfl⟩) q_B_blind (va_recv hK hP (ci := 4) (q0 := 0) rfl rfl) (q_B_of hP hK hN) rfl hl.1 rfl (Nat.le_of_ble_eq_true rfl) dX5_key_89 (Nat.zero_le _) (Nat.zero_le _) ?_
              refine q_S (As := [.int (q_or (tem1 (keyS (v_now V) r1 (sigs (v_pc V) 10)) r1 1) (s_n (keyS (v_now V) r1 (sigs (v_pc V) 10))))]) (rest := []) ⟨hx, hb, hml, hown, hts⟩ (c_X5_bits l (q_or (tem1 (keyS (v_now V) r1 (sigs (v_pc V) 10)) r1 1) (s_n (keyS (v_now V) r1 (sigs (v_pc V) 10)))) ) (va_cwS 1 hts gX5_key_X5_bits rfl rfl rfl (by decide +kernel) ⟨Nat.le_of_ble_eq_true rfl, Nat.le_of_ble_eq_true rfl⟩) q_Blind_t (fun _ _ _ => trivial) rfl hl.1 rfl (Nat.le_of_ble_eq_true rfl) dX5_key_92 (Nat.zero_le _) (Nat.zero_le _) ?_
              refine q_reI (show (bitI (q_or (tem1 (keyS (v_now V) r1 (sigs (v_pc V) 10)) r1 1) (s_n (keyS (v_now V) r1 (sigs (v_pc V) 10)))) : Int32) = nI (q_cnt (fun t => hasS (v_now V) t r1) (s_n (v_now V))) from by rw [tem_1]; exact q_bitN _ _ hn10) ?_
              exact q_miret hx hb hr hlk dX5_key_95 hP hS (by simp [keyR, keyM, keyE, cr1, c_4, c_14, c_25]) (by simp [keyR, keyM, keyE, cr1, c_4, c_14, c_25])
            · skip
              have lt_i47 : i47 < 10 := q_ge_F (by omega) hi_i47 c_50
              refine lv_aload_n hx hb dX5_key_53 rfl (lv_at hl 1 rfl) ?_
              refine va_get (D := g.1) (ci := 4) (v := .ref (d 1)) (C := RX5) (T := TX5) (N := 7) hx hb hts hi_X5 hown hK hP 0 rfl rfl 0 (by decide) fl_7 (fun _ h9 => h9) rfl dX5_key_54 ?_
              refine lv_iload_n hx hb dX5_key_57 rfl (lv_at hl 2 rfl) ?_
              refine q_S (As := [.int (nI r1)]) (rest := [.ref (d 1)]) ⟨hx, hb, hml, hown, hts⟩ (c_X5_r l r1 ) (va_cwS 1 hts gX5_key_X5_r rfl rfl rfl (by decide +kernel) ⟨Nat.le_of_ble_eq_true rfl, Nat.le_of_ble_eq_true rfl⟩) q_Blind_t (fun _ _ _ => trivial) rfl hl.1 rfl (Nat.le_of_ble_eq_true rfl) dX5_key_58 (Nat.zero_le _) (Nat.zero_le _) ?_
              refine lv_iconst (v := 1) hx hb dX5_key_61 (by decide) ?_
              refine lv_iadd hx hb dX5_key_62 ?_
              refine q_reI (show (((nI (8 + 11 * r1)) + 1) : Int32) = nI (8 + 11 * r1 + 1) from nI_add _ _) ?_
              refine lv_iload_n hx hb dX5_key_63 rfl (lv_at hl 0 rfl) ?_
              refine lv_iadd hx hb dX5_key_64 ?_
              refine q_reI (show (((nI (8 + 11 * r1 + 1)) + (nI i47)) : Int32) = nI (8 + 11 * r1 + 1 + i47) from nI_add _ _) ?_
              refine lv_aload_n hx hb dX5_key_65 rfl (lv_at hl 1 rfl) ?_
              refine va_get (D := g.1) (ci := 4) (v := .ref (d 5)) (C := RX5) (T := TX5) (N := 7) hx hb hts hi_X5 hown hK hP 0 rfl rfl 4 (by decide) fl_23 (fun _ h9 => h9) rfl dX5_key_66 ?_
              refine lv_iload_n hx hb dX5_key_69 rfl (lv_at hl 0 rfl) ?_
              refine q_cald (j := i47) hx hb hK hP 5 3 rfl rfl (by omega) (by decide) dX5_key_70 ?_
              refine q_reI (show (m_pad (m_rec M) i47 : Int32) = v_pc V i47 from (congrFun (m_recp M) _).trans (hpd _ (by omega))) ?_
              refine lv_bipush (v := 48) hx hb dX5_key_71 (by decide) ?_
              refine lv_isub hx hb dX5_key_73 ?_
              refine q_iast (j := (8 + 11 * r1 + 1 + i47)) hx hb hK hP hD hS 1 0 rfl rfl (by omega) (by decide) dX5_key_74 (fun H locs hP hS => ?_)
              have hP : va_P g.1 vwCl (q_mdW g d (n_s (n_s (m_rec M) (ovl (upd (m_s (m_rec M)) (8 + 11 * r1) 1) (fun k => v_pc V k - 48) (8 + 11 * r1 + 1) i47)) (upd (ovl (upd (m_s (m_rec M)) (8 + 11 * r1) 1) (fun k => v_pc V k - 48) (8 + 11 * r1 + 1) i47) (8 + 11 * r1 + 1 + i47) ((v_pc V i47) - 48)))) H := hP
              have hD : va_D (q_mAd d) (q_mdW g d (n_s (n_s (m_rec M) (ovl (upd (m_s (m_rec M)) (8 + 11 * r1) 1) (fun k => v_pc V k - 48) (8 + 11 * r1 + 1) i47)) (upd (ovl (upd (m_s (m_rec M)) (8 + 11 * r1) 1) (fun k => v_pc V k - 48) (8 + 11 * r1 + 1) i47) (8 + 11 * r1 + 1 + i47) ((v_pc V i47) - 48)))) := q_mD hJ (fun _ h => h)
              refine lv_iinc (v := nI (i47 + 1)) (lv' := [(2, .int (nI (i47 + 1))), (0, .ref (d 0)), (1, .int (nI r1))]) hx hb dX5_key_75 hl (k := 0) rfl (nI_1 _) (by decide) rfl (fun ls hl => ?_)
              refine lv_goto (tgt := 47) hx hb dX5_key_78 (by decide) ?_
              exact ih_i47 (i47 + 1) _ _ (by rw [← ovl_s]; exact hP) hS lt_i47 (by omega) ls (lv_sub hl [0, 1, 2] rfl)
        exact L_47 (10 + 1) 0 _ _ (by rw [ovl_0]; exact hP) hS (Nat.zero_le _) (by omega) ls (lv_sub hl [0, 1, 2] rfl)
      · skip
        have c_25 : (isOp (v_now V) r1) = false := bI_eq c_25
        refine lv_bipush (v := (-5)) hx hb dX5_key_28 (by decide) ?_
        exact q_miret hx hb hr hlk dX5_key_30 hP hS (by simp [keyR, keyM, keyE, cr1, c_4, c_14, c_25]) (by simp [keyR, keyM, keyE, cr1, c_4, c_14, c_25])
    · skip
      have c_14 : (tenP (v_pc V) (v_pl V) true) = false := bI_eq c_14
      rw [ten_t] at c_14
      refine lv_bipush (v := (-3)) hx hb dX5_key_17 (by decide) ?_
      exact q_miret hx hb hr hlk dX5_key_19 hP hS (by simp [keyR, keyM, keyE, cr1, c_4, c_14]) (by simp [keyR, keyM, keyE, cr1, c_4, c_14])
  · skip
    have c_4 : (isRd y) = false := bI_eq c_4
    refine lv_iconst (v := (-1)) hx hb dX5_key_7 (by decide) ?_
    exact q_miret hx hb hr hlk dX5_key_8 hP hS (by simp [keyR, keyM, keyE, c_4]) (by simp [keyR, keyM, keyE, c_4])
