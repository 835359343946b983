set_option maxHeartbeats 4000000 in
set_option maxRecDepth 100000 in
theorem c_X5_prize (l : Launch) (g : q_G) (d : Nat → Nat) (M : q_MV) (S : q_St) (K : Nat) (hc : q_cp S (m_s M)) (ho : q_ok K S) (hK5 : K ≤ 512) (t : Nat) (h1_ : t < 10) (h2_ : t ≤ s_n S) : q_PM l yX5_prize wsX5_prize { frames := 6, cells := 0, slots := 0, locals := 137 } [.ref (d 0), .int (nI t)] (q_B g (q_mdW g d M)) (.int (przS S t)) := by
  refine q_pm (cc := cX5_prize) (maxL := 7) (ret := (some .int)) (by decide) rfl (Nat.le_of_ble_eq_true rfl) ?_
  intro p e s m args below meth c ls hx hb hml hown hts hr hlk hB hl
  obtain ⟨hP, hK, hN⟩ := hB
  have hn10 := ok_n ho
  have hl : lv_has ls 7 [(0, .ref (d 0)), (1, .int (nI t))] := hl
  have hc1 := q_cnt_le (tie1 S t) (s_n S)
  have hc2 := q_cnt_le (fun o => aheS S o t) (s_n S)
  have hsh : shrN S t ≤ 11 := by unfold shrN; omega
  have hsh1 : 1 ≤ shrN S t := by unfold shrN; omega
  have hrk : rnkS S t ≤ 11 := by unfold rnkS; omega
  refine lv_aload_n hx hb dX5_prize_0 rfl (lv_at hl 0 rfl) ?_
  refine lv_iload_n hx hb dX5_prize_1 rfl (lv_at hl 1 rfl) ?_
  refine q_V (As := [.int (nI t)]) (rest := []) ⟨hx, hb, hml, hown, hts⟩ (c_X5_tied l g d M S K hc ho hK5 t (by omega)) (cwV 1 hts gX5_prize_X5_tied rfl rfl rfl (by decide +kernel) ⟨Nat.le_of_ble_eq_true rfl, Nat.le_of_ble_eq_true rfl⟩) q_B_blind (va_recv hK hP (ci := 4) (q0 := 0) rfl rfl) (q_B_of hP hK hN) rfl hl.1 rfl (Nat.le_of_ble_eq_true rfl) dX5_prize_2 (Nat.zero_le _) (Nat.zero_le _) ?_
  refine lv_istore_n (lv' := [(2, .int (tieS S t)), (0, .ref (d 0)), (1, .int (nI t))]) hx hb dX5_prize_5 rfl hl (by decide) rfl (fun ls hl => ?_)
  refine lv_iload_n hx hb dX5_prize_6 rfl (lv_at hl 0 rfl) ?_
  refine q_S (As := [.int (tieS S t)]) (rest := []) ⟨hx, hb, hml, hown, hts⟩ (c_X5_bits l (tieS S t) ) (va_cwS 1 hts gX5_prize_X5_bits rfl rfl rfl (by decide +kernel) ⟨Nat.le_of_ble_eq_true rfl, Nat.le_of_ble_eq_true rfl⟩) q_Blind_t (fun _ _ _ => trivial) rfl hl.1 rfl (Nat.le_of_ble_eq_true rfl) dX5_prize_7 (Nat.zero_le _) (Nat.zero_le _) ?_
  refine lv_iconst (v := 1) hx hb dX5_prize_10 (by decide) ?_
  refine lv_iadd hx hb dX5_prize_11 ?_
  refine q_reI (show (((bitI (tieS S t)) + 1) : Int32) = nI (shrN S t) from by rw [tieS, q_bitN (tie1 S t) (s_n S) hn10, nI_1]; rfl) ?_
  refine lv_istore_n (lv' := [(3, .int (nI (shrN S t))), (2, .int (tieS S t)), (0, .ref (d 0)), (1, .int (nI t))]) hx hb dX5_prize_12 rfl hl (by decide) rfl (fun ls hl => ?_)
  refine lv_aload_n hx hb dX5_prize_13 rfl (lv_at hl 2 rfl) ?_
  refine lv_iload_n hx hb dX5_prize_14 rfl (lv_at hl 3 rfl) ?_
  refine q_V (As := [.int (nI t)]) (rest := []) ⟨hx, hb, hml, hown, hts⟩ (c_X5_rank l g d M S K hc ho hK5 t (by omega)) (cwV 1 hts gX5_prize_X5_rank rfl rfl rfl (by decide +kernel) ⟨Nat.le_of_ble_eq_true rfl, Nat.le_of_ble_eq_true rfl⟩) q_B_blind (va_recv hK hP (ci := 4) (q0 := 0) rfl rfl) (q_B_of hP hK hN) rfl hl.1 rfl (Nat.le_of_ble_eq_true rfl) dX5_prize_15 (Nat.zero_le _) (Nat.zero_le _) ?_
  refine lv_istore (lv' := [(4, .int (nI (rnkS S t))), (3, .int (nI (shrN S t))), (2, .int (tieS S t)), (0, .ref (d 0)), (1, .int (nI t))]) hx hb dX5_prize_18 hl (by decide) rfl (fun ls hl => ?_)
  refine lv_iconst (v := 0) hx hb dX5_prize_20 (by decide) ?_
  refine lv_istore (lv' := [(5, .int 0), (4, .int (nI (rnkS S t))), (3, .int (nI (shrN S t))), (2, .int (tieS S t)), (0, .ref (d 0)), (1, .int (nI t))]) hx hb dX5_prize_21 hl (by decide) rfl (fun ls hl => ?_)
  refine lv_iload hx hb dX5_prize_23 (lv_at hl 1 rfl) ?_
  refine lv_istore (lv' := [(6, .int (nI (rnkS S t))), (5, .int 0), (4, .int (nI (rnkS S t))), (3, .int (nI (shrN S t))), (2, .int (tieS S t)), (0, .ref (d 0)), (1, .int (nI t))]) hx hb dX5_prize_25 hl (by decide) rfl (fun ls hl => ?_)
  have L_27 : ∀ (fu i27 : Nat) (y5_27 : Int32), y5_27 = sumP S t (i27 - rnkS S t) → rnkS S t ≤ i27 → i27 ≤ rnkS S t + shrN S t → rnkS S t + shrN S t < i27 + fu → ∀ ls : Array Slot, lv_has ls 7 [(6, .int (nI i27)), (5, .int y5_27), (4, .int (nI (rnkS S t))), (3, .int (nI (shrN S t))), (2, .int (tieS S t)), (0, .ref (d 0)), (1, .int (nI t))] → W p l e { frames := 6, cells := 0, slots := 0, locals := 137 } s m args below meth c s.heap [] 0 0 (MQ below (k2_QcV (.int (przS S t))) args s 0 0 (fun _ => False)) (F0 m 27 ls []) := by
    intro fu
    induction fu with
    | zero => intro i27 y5_27 ey5_27 hs_i27 hi_i27 hn_i27; exact absurd hn_i27 (by omega)
    | succ fu ih_i27 =>
      intro i27 y5_27 ey5_27 hs_i27 hi_i27 hn_i27 ls hl
      subst ey5_27
      refine lv_iload hx hb dX5_prize_27 (lv_at hl 0 rfl) ?_
      refine lv_iload hx hb dX5_prize_29 (lv_at hl 2 rfl) ?_
      refine lv_iload_n hx hb dX5_prize_31 rfl (lv_at hl 3 rfl) ?_
      refine lv_iadd hx hb dX5_prize_32 ?_
      refine q_reI (show (((nI (rnkS S t)) + (nI (shrN S t))) : Int32) = nI (rnkS S t + (shrN S t)) from nI_add _ _) ?_
      refine lv_icmp_ge (tgt := 53) hx hb dX5_prize_33 (by decide) (fun c_33 => ?_) (fun c_33 => ?_)
      · skip
        have e_33 : i27 = rnkS S t + shrN S t := q_ge_T (by omega) hi_i27 c_33
        subst e_33
        rw [show rnkS S t + shrN S t - rnkS S t = shrN S t from Nat.add_sub_cancel_left _ _] at hl
        refine lv_iload_n hx hb dX5_prize_53 rfl (lv_at hl 4 rfl) ?_
        refine lv_iconst (v := 1) hx hb dX5_prize_54 (by decide) ?_
        refine lv_iload_n hx hb dX5_prize_55 rfl (lv_at hl 6 rfl) ?_
        refine lv_ishl hx hb dX5_prize_56 ?_
        refine lv_iconst (v := 1) hx hb dX5_prize_57 (by decide) ?_
        refine lv_isub hx hb dX5_prize_58 ?_
        refine lv_iand hx hb dX5_prize_59 ?_
        refine q_S (As := [.int ((tieS S t) &&& ((1 <<< ((nI t) &&& 31)) - 1))]) (rest := []) ⟨hx, hb, hml, hown, hts⟩ (c_X5_bits l ((tieS S t) &&& ((1 <<< ((nI t) &&& 31)) - 1)) ) (va_cwS 1 hts gX5_prize_X5_bits rfl rfl rfl (by decide +kernel) ⟨Nat.le_of_ble_eq_true rfl, Nat.le_of_ble_eq_true rfl⟩) q_Blind_t (fun _ _ _ => trivial) rfl hl.1 rfl (Nat.le_of_ble_eq_true rfl) dX5_prize_60 (Nat.zero_le _) (Nat.zero_le _) ?_
        refine q_reI (show (bitI ((tieS S t) &&& ((1 <<< ((nI t) &&& 31)) - 1)) : Int32) = nI (q_cnt (tie1 S t) t) from q_bitL (tie1 S t) t (s_n S) h2_ h1_ hn10) ?_
        refine lv_istore (lv' := [(6, .int (nI (q_cnt (tie1 S t) t))), (5, .int (sumP S t (shrN S t))), (4, .int (nI (rnkS S t))), (3, .int (nI (shrN S t))), (2, .int (tieS S t)), (0, .ref (d 0)), (1, .int (nI t))]) hx hb dX5_prize_63 hl (by decide) rfl (fun ls hl => ?_)
        refine lv_iload hx hb dX5_prize_65 (lv_at hl 1 rfl) ?_
        refine lv_iload_n hx hb dX5_prize_67 rfl (lv_at hl 3 rfl) ?_
        refine lv_idiv hx hb dX5_prize_68 (nI_ne0 hsh1 (by omega)) ?_
        refine lv_iload hx hb dX5_prize_69 (lv_at hl 0 rfl) ?_
        refine lv_iload hx hb dX5_prize_71 (lv_at hl 1 rfl) ?_
        refine lv_iload_n hx hb dX5_prize_73 rfl (lv_at hl 3 rfl) ?_
        refine lv_irem hx hb dX5_prize_74 (nI_ne0 hsh1 (by omega)) ?_
        refine lv_icmp_ge (tgt := 82) hx hb dX5_prize_75 (by decide) (fun c_75 => ?_) (fun c_75 => ?_)
        · skip
          refine lv_iconst (v := 0) hx hb dX5_prize_82 (by decide) ?_
          refine lv_iadd hx hb dX5_prize_83 ?_
          exact q_iret hx hb hr hlk dX5_prize_84 (by simp only [przS, if_pos c_75])
        · skip
          refine lv_iconst (v := 1) hx hb dX5_prize_78 (by decide) ?_
          refine lv_goto (tgt := 83) hx hb dX5_prize_79 (by decide) ?_
          refine lv_iadd hx hb dX5_prize_83 ?_
          exact q_iret hx hb hr hlk dX5_prize_84 (by simp only [przS, if_neg c_75])
      · skip
        have lt_i27 : i27 < rnkS S t + shrN S t := q_ge_F (by omega) hi_i27 c_33
        refine lv_iload hx hb dX5_prize_36 (lv_at hl 1 rfl) ?_
        refine lv_aload_n hx hb dX5_prize_38 rfl (lv_at hl 5 rfl) ?_
        refine lv_iload hx hb dX5_prize_39 (lv_at hl 0 rfl) ?_
        refine q_V (As := [.int (nI i27)]) (rest := [.int (sumP S t (i27 - rnkS S t))]) ⟨hx, hb, hml, hown, hts⟩ (c_X5_placeGets l g d M S K hc ho hK5 (nI i27) ) (cwV 1 hts gX5_prize_X5_placeGets rfl rfl rfl (by decide +kernel) ⟨Nat.le_of_ble_eq_true rfl, Nat.le_of_ble_eq_true rfl⟩) q_B_blind (va_recv hK hP (ci := 4) (q0 := 0) rfl rfl) (q_B_of hP hK hN) rfl hl.1 rfl (Nat.le_of_ble_eq_true rfl) dX5_prize_41 (Nat.zero_le _) (Nat.zero_le _) ?_
        refine lv_iadd hx hb dX5_prize_44 ?_
        refine lv_istore (lv' := [(5, .int ((sumP S t (i27 - rnkS S t)) + (prpS S (nI i27)))), (6, .int (nI i27)), (4, .int (nI (rnkS S t))), (3, .int (nI (shrN S t))), (2, .int (tieS S t)), (0, .ref (d 0)), (1, .int (nI t))]) hx hb dX5_prize_45 hl (by decide) rfl (fun ls hl => ?_)
        refine lv_iinc (v := nI (i27 + 1)) (lv' := [(6, .int (nI (i27 + 1))), (5, .int ((sumP S t (i27 - rnkS S t)) + (prpS S (nI i27)))), (4, .int (nI (rnkS S t))), (3, .int (nI (shrN S t))), (2, .int (tieS S t)), (0, .ref (d 0)), (1, .int (nI t))]) hx hb dX5_prize_47 hl (k := 1) rfl (nI_1 _) (by decide) rfl (fun ls hl => ?_)
        refine lv_goto (tgt := 27) hx hb dX5_prize_50 (by decide) ?_
        exact ih_i27 (i27 + 1) ((sumP S t (i27 - rnkS S t)) + (prpS S (nI i27))) (q_sumP S t i27 hs_i27) (by omega) lt_i27 (by omega) ls (lv_sub hl [0, 1, 2, 3, 4, 5, 6] rfl)
  exact L_27 (rnkS S t + shrN S t + 1) (rnkS S t) 0 (by rw [Nat.sub_self]; rfl) (Nat.le_refl _) (by omega) (by omega) ls (lv_sub hl [0, 1, 2, 3, 4, 5, 6] rfl)

set_option maxHeartbeats 4000000 in
set_option maxRecDepth 100000 in
theorem c_X5_openRounds (l : Launch) (g : q_G) (d : Nat → Nat) (M : q_MV) (S : q_St) (K : Nat) (hc : q_cp S (m_s M)) (ho : q_ok K S) (hK5 : K ≤ 512) : q_PM l yX5_openRounds wsX5_openRounds { frames := 2, cells := 0, slots := 0, locals := 41 } [.ref (d 0)] (q_B g (q_mdW g d M)) (.int (q_or (isOp S) 8)) := by
  refine q_pm (cc := cX5_openRounds) (maxL := 3) (ret := (some .int)) (by decide) rfl (Nat.le_of_ble_eq_true rfl) ?_
  intro p e s m args below meth c ls hx hb hml hown hts hr hlk hB hl
  obtain ⟨hP, hK, hN⟩ := hB
  have hn10 := ok_n ho
  have hl : lv_has ls 3 [(0, .ref (d 0))] := hl
  refine lv_iconst (v := 0) hx hb dX5_openRounds_0 (by decide) ?_
  refine lv_istore_n (lv' := [(1, .int 0), (0, .ref (d 0))]) hx hb dX5_openRounds_1 rfl hl (by decide) rfl (fun ls hl => ?_)
  refine lv_iconst (v := 0) hx hb dX5_openRounds_2 (by decide) ?_
  refine lv_istore_n (lv' := [(2, .int 0), (1, .int 0), (0, .ref (d 0))]) hx hb dX5_openRounds_3 rfl hl (by decide) rfl (fun ls hl => ?_)
  have L_4 : ∀ (fu i4 : Nat) (y1_4 : Int32), y1_4 = q_or (isOp S) i4 → i4 ≤ 8 → 8 < i4 + fu → ∀ ls : Array Slot, lv_has ls 3 [(2, .int (nI i4)), (1, .int y1_4), (0, .ref (d 0))] → W p l e { frames := 2, cells := 0, slots := 0, locals := 41 } s m args below meth c s.heap [] 0 0 (MQ below (k2_QcV (.int (q_or (isOp S) 8))) args s 0 0 (fun _ => False)) (F0 m 4 ls []) := by
    intro fu
    induction fu with
    | zero => intro i4 y1_4 ey1_4 hi_i4 hn_i4; exact absurd hn_i4 (by omega)
    | succ fu ih_i4 =>
      intro i4 y1_4 ey1_4 hi_i4 hn_i4 ls hl
      subst ey1_4
      refine lv_iload_n hx hb dX5_openRounds_4 rfl (lv_at hl 0 rfl) ?_
      refine lv_bipush (v := 8) hx hb dX5_openRounds_5 (by decide) ?_
      refine lv_icmp_ge (tgt := 34) hx hb dX5_openRounds_7 (by decide) (fun c_7 => ?_) (fun c_7 => ?_)
      · skip
        have e_7 : i4 = 8 := q_ge_T (by omega) hi_i4 c_7
        subst e_7
        refine lv_iload_n hx hb dX5_openRounds_34 rfl (lv_at hl 1 rfl) ?_
        exact q_iret hx hb hr hlk dX5_openRounds_35 (rfl)
      · skip
        have lt_i4 : i4 < 8 := q_ge_F (by omega) hi_i4 c_7
        refine lv_iload_n hx hb dX5_openRounds_10 rfl (lv_at hl 1 rfl) ?_
        refine lv_aload_n hx hb dX5_openRounds_11 rfl (lv_at hl 2 rfl) ?_
        refine lv_iload_n hx hb dX5_openRounds_12 rfl (lv_at hl 0 rfl) ?_
        refine q_V (As := [.int (nI i4)]) (rest := [.int (q_or (isOp S) i4)]) ⟨hx, hb, hml, hown, hts⟩ (c_X5_isOpen l g d M S K hc ho hK5 i4 (by omega)) (cwV 1 hts gX5_openRounds_X5_isOpen rfl rfl rfl (by decide +kernel) ⟨Nat.le_of_ble_eq_true rfl, Nat.le_of_ble_eq_true rfl⟩) q_B_blind (va_recv hK hP (ci := 4) (q0 := 0) rfl rfl) (q_B_of hP hK hN) rfl hl.1 rfl (Nat.le_of_ble_eq_true rfl) dX5_openRounds_13 (Nat.zero_le _) (Nat.zero_le _) ?_
        refine lv_if_eq (tgt := 25) hx hb dX5_openRounds_16 (by decide) (fun c_16 => ?_) (fun c_16 => ?_)
        · skip
          have c_16 : (isOp S i4) = false := bI_eq c_16
          refine lv_iconst (v := 0) hx hb dX5_openRounds_25 (by decide) ?_
          refine lv_ior hx hb dX5_openRounds_26 ?_
          refine lv_istore_n (lv' := [(1, .int ((q_or (isOp S) i4) ||| 0)), (2, .int (nI i4)), (0, .ref (d 0))]) hx hb dX5_openRounds_27 rfl hl (by decide) rfl (fun ls hl => ?_)
          refine lv_iinc (v := nI (i4 + 1)) (lv' := [(2, .int (nI (i4 + 1))), (1, .int ((q_or (isOp S) i4) ||| 0)), (0, .ref (d 0))]) hx hb dX5_openRounds_28 hl (k := 1) rfl (nI_1 _) (by decide) rfl (fun ls hl => ?_)
          refine lv_goto (tgt := 4) hx hb dX5_openRounds_31 (by decide) ?_
          exact ih_i4 (i4 + 1) ((q_or (isOp S) i4) ||| 0) (by first | (simp [q_acc, q_or, q_cnt, q_any, nI_1, c_16]; done) | rfl) lt_i4 (by omega) ls (lv_sub hl [0, 1, 2] rfl)
        · skip
          have c_16 : (isOp S i4) = true := bI_ne c_16
          refine lv_iconst (v := 1) hx hb dX5_openRounds_19 (by decide) ?_
          refine lv_iload_n hx hb dX5_openRounds_20 rfl (lv_at hl 0 rfl) ?_
          refine lv_ishl hx hb dX5_openRounds_21 ?_
          refine lv_goto (tgt := 26) hx hb dX5_openRounds_22 (by decide) ?_
          refine lv_ior hx hb dX5_openRounds_26 ?_
          refine lv_istore_n (lv' := [(1, .int ((q_or (isOp S) i4) ||| (1 <<< ((nI i4) &&& 31)))), (2, .int (nI i4)), (0, .ref (d 0))]) hx hb dX5_openRounds_27 rfl hl (by decide) rfl (fun ls hl => ?_)
          refine lv_iinc (v := nI (i4 + 1)) (lv' := [(2, .int (nI (i4 + 1))), (1, .int ((q_or (isOp S) i4) ||| (1 <<< ((nI i4) &&& 31)))), (0, .ref (d 0))]) hx hb dX5_openRounds_28 hl (k := 1) rfl (nI_1 _) (by decide) rfl (fun ls hl => ?_)
          refine lv_goto (tgt := 4) hx hb dX5_openRounds_31 (by decide) ?_
          exact ih_i4 (i4 + 1) ((q_or (isOp S) i4) ||| (1 <<< ((nI i4) &&& 31))) (by first | (simp [q_acc, q_or, q_cnt, q_any, nI_1, c_16]; done) | rfl) lt_i4 (by omega) ls (lv_sub hl [0, 1, 2] rfl)
  exact L_4 (8 + 1) 0 0 (rfl) (Nat.zero_le _) (by omega) ls (lv_sub hl [0, 1, 2] rfl)

set_option maxHeartbeats 4000000 in
set_option maxRecDepth 100000 in
theorem c_X5_tellsTen (l : Launch) (g : q_G) (d : Nat → Nat) (M : q_MV) (C : Nat → Int32) (n : Nat) (hn8 : n ≤ 80) (hln : m_len M = n) (hpd : ∀ k, k < n → m_pad M k = C k) (bd : Bool) : q_PM l yX5_tellsTen wsX5_tellsTen { frames := 0, cells := 0, slots := 0, locals := 0 } [.ref (d 0), .int (bI bd)] (q_B g (q_mdW g d M)) (.int (bI (tenP C n bd))) := by
  refine q_pm (cc := cX5_tellsTen) (maxL := 4) (ret := (some .boolean)) (by decide) rfl (Nat.le_of_ble_eq_true rfl) ?_
  intro p e s m args below meth c ls hx hb hml hown hts hr hlk hB hl
  obtain ⟨hP, hK, hN⟩ := hB
  have fl_23 := hts (.fieldLink RX5 23 "PubQuizzesModel" "pad" "[C") (by decide +kernel)
  have fl_92 := hts (.fieldLink RX5 92 "PubQuizzesModel" "length" "I") (by decide +kernel)
  have hi_X5 : ∀ w ∈ u_ws RX5 TX5 7, w ∈ wsX5_tellsTen := by decide +kernel
  have hl : lv_has ls 4 [(0, .ref (d 0)), (1, .int (bI bd))] := hl
  refine lv_aload_n hx hb dX5_tellsTen_0 rfl (lv_at hl 0 rfl) ?_
  refine va_get (D := g.1) (ci := 4) (v := .int (nI (m_len M))) (C := RX5) (T := TX5) (N := 7) hx hb hts hi_X5 hown hK hP 0 rfl rfl 5 (by decide) fl_92 (fun _ h9 => h9) rfl dX5_tellsTen_1 ?_
  refine q_reI (show (nI (m_len M) : Int32) = nI n from by rw [hln]) ?_
  refine lv_bipush (v := 10) hx hb dX5_tellsTen_4 (by decide) ?_
  refine lv_icmp_ne (tgt := 13) hx hb dX5_tellsTen_6 (by decide) (fun c_6 => ?_) (fun c_6 => ?_)
  · skip
    have c_6 : ¬ n = 10 := fun q => c_6 (by rw [q]; rfl)
    refine lv_iconst (v := 0) hx hb dX5_tellsTen_13 (by decide) ?_
    refine lv_istore_n (lv' := [(2, .int 0), (0, .ref (d 0)), (1, .int (bI bd))]) hx hb dX5_tellsTen_14 rfl hl (by decide) rfl (fun ls hl => ?_)
    refine lv_iconst (v := 0) hx hb dX5_tellsTen_15 (by decide) ?_
    refine lv_istore_n (lv' := [(3, .int 0), (2, .int 0), (0, .ref (d 0)), (1, .int (bI bd))]) hx hb dX5_tellsTen_16 rfl hl (by decide) rfl (fun ls hl => ?_)
    have L_17 : ∀ (fu i17 : Nat) (y2_17 : Int32), y2_17 = bI (decide (n = 10) && !q_any (fun k => !ten1 C bd k) i17) → i17 ≤ 10 → 10 < i17 + fu → ∀ ls : Array Slot, lv_has ls 4 [(3, .int (nI i17)), (2, .int y2_17), (0, .ref (d 0)), (1, .int (bI bd))] → W p l e { frames := 0, cells := 0, slots := 0, locals := 0 } s m args below meth c s.heap [] 0 0 (MQ below (k2_QcV (.int (bI (tenP C n bd)))) args s 0 0 (fun _ => False)) (F0 m 17 ls []) := by
      intro fu
      induction fu with
      | zero => intro i17 y2_17 ey2_17 hi_i17 hn_i17; exact absurd hn_i17 (by omega)
      | succ fu ih_i17 =>
        intro i17 y2_17 ey2_17 hi_i17 hn_i17 ls hl
        subst ey2_17
        refine lv_iload_n hx hb dX5_tellsTen_17 rfl (lv_at hl 0 rfl) ?_
        refine lv_bipush (v := 10) hx hb dX5_tellsTen_18 (by decide) ?_
        refine lv_icmp_ge (tgt := 76) hx hb dX5_tellsTen_20 (by decide) (fun c_20 => ?_) (fun c_20 => ?_)
        · skip
          have e_20 : i17 = 10 := q_ge_T (by omega) hi_i17 c_20
          subst e_20
          refine lv_iload_n hx hb dX5_tellsTen_76 rfl (lv_at hl 1 rfl) ?_
          exact q_zret hx hb hr hlk dX5_tellsTen_77 (by first | rfl | (rw [hfin]; rfl) | (rw [hfin, c_6]; done) | (rw [hfin]; simp_all [bI]))
        · skip
          have lt_i17 : i17 < 10 := q_ge_F (by omega) hi_i17 c_20
          refine lv_iload_n hx hb dX5_tellsTen_23 rfl (lv_at hl 1 rfl) ?_
          refine lv_if_eq (tgt := 76) hx hb dX5_tellsTen_24 (by decide) (fun c_24 => ?_) (fun c_24 => ?_)
          · skip
            have c_24 : (decide (n = 10) && !q_any (fun k => !ten1 C bd k) i17) = false := bI_eq c_24
            have hfin := ten_e (by omega) c_24
            refine lv_iload_n hx hb dX5_tellsTen_76 rfl (lv_at hl 1 rfl) ?_
            exact q_zret hx hb hr hlk dX5_tellsTen_77 (by first | rfl | (rw [hfin]; rfl) | (rw [hfin, c_6, c_24]; done) | (rw [hfin]; simp_all [bI]))
          · skip
            have c_24 : (decide (n = 10) && !q_any (fun k => !ten1 C bd k) i17) = true := bI_ne c_24
            have hb1 : n = 10 := by simp only [Bool.and_eq_true, decide_eq_true_eq] at c_24; exact c_24.1
            have hb2 : q_any (fun k => !ten1 C bd k) i17 = false := by simpa [hb1] using c_24
            refine lv_aload_n hx hb dX5_tellsTen_27 rfl (lv_at hl 2 rfl) ?_
            refine va_get (D := g.1) (ci := 4) (v := .ref (d 5)) (C := RX5) (T := TX5) (N := 7) hx hb hts hi_X5 hown hK hP 0 rfl rfl 4 (by decide) fl_23 (fun _ h9 => h9) rfl dX5_tellsTen_28 ?_
            refine lv_iload_n hx hb dX5_tellsTen_31 rfl (lv_at hl 0 rfl) ?_
            refine q_cald (j := i17) hx hb hK hP 5 3 rfl rfl (by omega) (by decide) dX5_tellsTen_32 ?_
            refine q_reI (show (m_pad M i17 : Int32) = C i17 from hpd i17 (by omega)) ?_
            refine lv_bipush (v := 48) hx hb dX5_tellsTen_33 (by decide) ?_
            refine lv_icmp_lt (tgt := 49) hx hb dX5_tellsTen_35 (by decide) (fun c_35 => ?_) (fun c_35 => ?_)
            · skip
              refine lv_iload_n hx hb dX5_tellsTen_49 rfl (lv_at hl 3 rfl) ?_
              refine lv_if_ne (tgt := 68) hx hb dX5_tellsTen_50 (by decide) (fun c_50 => ?_) (fun c_50 => ?_)
              · skip
                have c_50 : bd = true := bI_ne c_50
                refine lv_iconst (v := 0) hx hb dX5_tellsTen_68 (by decide) ?_
                refine lv_istore_n (lv' := [(2, .int 0), (3, .int (nI i17)), (0, .ref (d 0)), (1, .int (bI bd))]) hx hb dX5_tellsTen_69 rfl hl (by decide) rfl (fun ls hl => ?_)
                refine lv_iinc (v := nI (i17 + 1)) (lv' := [(3, .int (nI (i17 + 1))), (2, .int 0), (0, .ref (d 0)), (1, .int (bI bd))]) hx hb dX5_tellsTen_70 hl (k := 1) rfl (nI_1 _) (by decide) rfl (fun ls hl => ?_)
                refine lv_goto (tgt := 17) hx hb dX5_tellsTen_73 (by decide) ?_
                exact ih_i17 (i17 + 1) 0 (by first | (rw [ten_s1 hb1 hb2 (by simp [ten1, isDg, c_6, hb1, hb2, c_24, c_35, c_50])]; rfl) | (rw [ten_s0 hb1 hb2 (by simp [ten1, isDg, c_6, hb1, hb2, c_24, c_35, c_50])]; rfl)) lt_i17 (by omega) ls (lv_sub hl [0, 1, 2, 3] rfl)
              · skip
                have c_50 : bd = false := bI_eq c_50
                refine lv_aload_n hx hb dX5_tellsTen_53 rfl (lv_at hl 2 rfl) ?_
                refine va_get (D := g.1) (ci := 4) (v := .ref (d 5)) (C := RX5) (T := TX5) (N := 7) hx hb hts hi_X5 hown hK hP 0 rfl rfl 4 (by decide) fl_23 (fun _ h9 => h9) rfl dX5_tellsTen_54 ?_
                refine lv_iload_n hx hb dX5_tellsTen_57 rfl (lv_at hl 0 rfl) ?_
                refine q_cald (j := i17) hx hb hK hP 5 3 rfl rfl (by omega) (by decide) dX5_tellsTen_58 ?_
                refine q_reI (show (m_pad M i17 : Int32) = C i17 from hpd i17 (by omega)) ?_
                refine lv_bipush (v := 45) hx hb dX5_tellsTen_59 (by decide) ?_
                refine lv_icmp_ne (tgt := 68) hx hb dX5_tellsTen_61 (by decide) (fun c_61 => ?_) (fun c_61 => ?_)
                · skip
                  refine lv_iconst (v := 0) hx hb dX5_tellsTen_68 (by decide) ?_
                  refine lv_istore_n (lv' := [(2, .int 0), (3, .int (nI i17)), (0, .ref (d 0)), (1, .int (bI bd))]) hx hb dX5_tellsTen_69 rfl hl (by decide) rfl (fun ls hl => ?_)
                  refine lv_iinc (v := nI (i17 + 1)) (lv' := [(3, .int (nI (i17 + 1))), (2, .int 0), (0, .ref (d 0)), (1, .int (bI bd))]) hx hb dX5_tellsTen_70 hl (k := 1) rfl (nI_1 _) (by decide) rfl (fun ls hl => ?_)
                  refine lv_goto (tgt := 17) hx hb dX5_tellsTen_73 (by decide) ?_
                  exact ih_i17 (i17 + 1) 0 (by first | (rw [ten_s1 hb1 hb2 (by simp [ten1, isDg, c_6, hb1, hb2, c_24, c_35, c_50, c_61])]; rfl) | (rw [ten_s0 hb1 hb2 (by simp [ten1, isDg, c_6, hb1, hb2, c_24, c_35, c_50, c_61])]; rfl)) lt_i17 (by omega) ls (lv_sub hl [0, 1, 2, 3] rfl)
                · skip
                  refine lv_iconst (v := 1) hx hb dX5_tellsTen_64 (by decide) ?_
                  refine lv_goto (tgt := 69) hx hb dX5_tellsTen_65 (by decide) ?_
                  refine lv_istore_n (lv' := [(2, .int 1), (3, .int (nI i17)), (0, .ref (d 0)), (1, .int (bI bd))]) hx hb dX5_tellsTen_69 rfl hl (by decide) rfl (fun ls hl => ?_)
                  refine lv_iinc (v := nI (i17 + 1)) (lv' := [(3, .int (nI (i17 + 1))), (2, .int 1), (0, .ref (d 0)), (1, .int (bI bd))]) hx hb dX5_tellsTen_70 hl (k := 1) rfl (nI_1 _) (by decide) rfl (fun ls hl => ?_)
                  refine lv_goto (tgt := 17) hx hb dX5_tellsTen_73 (by decide) ?_
                  exact ih_i17 (i17 + 1) 1 (by first | (rw [ten_s1 hb1 hb2 (by simp [ten1, isDg, c_6, hb1, hb2, c_24, c_35, c_50, c_61])]; rfl) | (rw [ten_s0 hb1 hb2 (by simp [ten1, isDg, c_6, hb1, hb2, c_24, c_35, c_50, c_61])]; rfl)) lt_i17 (by omega) ls (lv_sub hl [0, 1, 2, 3] rfl)
            · skip
              refine lv_aload_n hx hb dX5_tellsTen_38 rfl (lv_at hl 2 rfl) ?_
              refine va_get (D := g.1) (ci := 4) (v := .ref (d 5)) (C := RX5) (T := TX5) (N := 7) hx hb hts hi_X5 hown hK hP 0 rfl rfl 4 (by decide) fl_23 (fun _ h9 => h9) rfl dX5_tellsTen_39 ?_
              refine lv_iload_n hx hb dX5_tellsTen_42 rfl (lv_at hl 0 rfl) ?_
              refine q_cald (j := i17) hx hb hK hP 5 3 rfl rfl (by omega) (by decide) dX5_tellsTen_43 ?_
              refine q_reI (show (m_pad M i17 : Int32) = C i17 from hpd i17 (by omega)) ?_
              refine lv_bipush (v := 57) hx hb dX5_tellsTen_44 (by decide) ?_
              refine lv_icmp_le (tgt := 64) hx hb dX5_tellsTen_46 (by decide) (fun c_46 => ?_) (fun c_46 => ?_)
              · skip
                have c_46 := Int32.not_lt.mpr c_46
                refine lv_iconst (v := 1) hx hb dX5_tellsTen_64 (by decide) ?_
                refine lv_goto (tgt := 69) hx hb dX5_tellsTen_65 (by decide) ?_
                refine lv_istore_n (lv' := [(2, .int 1), (3, .int (nI i17)), (0, .ref (d 0)), (1, .int (bI bd))]) hx hb dX5_tellsTen_69 rfl hl (by decide) rfl (fun ls hl => ?_)
                refine lv_iinc (v := nI (i17 + 1)) (lv' := [(3, .int (nI (i17 + 1))), (2, .int 1), (0, .ref (d 0)), (1, .int (bI bd))]) hx hb dX5_tellsTen_70 hl (k := 1) rfl (nI_1 _) (by decide) rfl (fun ls hl => ?_)
                refine lv_goto (tgt := 17) hx hb dX5_tellsTen_73 (by decide) ?_
                exact ih_i17 (i17 + 1) 1 (by first | (rw [ten_s1 hb1 hb2 (by simp [ten1, isDg, c_6, hb1, hb2, c_24, c_35, c_46])]; rfl) | (rw [ten_s0 hb1 hb2 (by simp [ten1, isDg, c_6, hb1, hb2, c_24, c_35, c_46])]; rfl)) lt_i17 (by omega) ls (lv_sub hl [0, 1, 2, 3] rfl)
              · skip
                have c_46 := Int32.not_le.mp c_46
                refine lv_iload_n hx hb dX5_tellsTen_49 rfl (lv_at hl 3 rfl) ?_
                refine lv_if_ne (tgt := 68) hx hb dX5_tellsTen_50 (by decide) (fun c_50 => ?_) (fun c_50 => ?_)
                · skip
                  have c_50 : bd = true := bI_ne c_50
                  refine lv_iconst (v := 0) hx hb dX5_tellsTen_68 (by decide) ?_
                  refine lv_istore_n (lv' := [(2, .int 0), (3, .int (nI i17)), (0, .ref (d 0)), (1, .int (bI bd))]) hx hb dX5_tellsTen_69 rfl hl (by decide) rfl (fun ls hl => ?_)
                  refine lv_iinc (v := nI (i17 + 1)) (lv' := [(3, .int (nI (i17 + 1))), (2, .int 0), (0, .ref (d 0)), (1, .int (bI bd))]) hx hb dX5_tellsTen_70 hl (k := 1) rfl (nI_1 _) (by decide) rfl (fun ls hl => ?_)
                  refine lv_goto (tgt := 17) hx hb dX5_tellsTen_73 (by decide) ?_
                  exact ih_i17 (i17 + 1) 0 (by first | (rw [ten_s1 hb1 hb2 (by simp [ten1, isDg, c_6, hb1, hb2, c_24, c_35, c_46, c_50])]; rfl) | (rw [ten_s0 hb1 hb2 (by simp [ten1, isDg, c_6, hb1, hb2, c_24, c_35, c_46, c_50])]; rfl)) lt_i17 (by omega) ls (lv_sub hl [0, 1, 2, 3] rfl)
                · skip
                  have c_50 : bd = false := bI_eq c_50
                  refine lv_aload_n hx hb dX5_tellsTen_53 rfl (lv_at hl 2 rfl) ?_
                  refine va_get (D := g.1) (ci := 4) (v := .ref (d 5)) (C := RX5) (T := TX5) (N := 7) hx hb hts hi_X5 hown hK hP 0 rfl rfl 4 (by decide) fl_23 (fun _ h9 => h9) rfl dX5_tellsTen_54 ?_
                  refine lv_iload_n hx hb dX5_tellsTen_57 rfl (lv_at hl 0 rfl) ?_
                  refine q_cald (j := i17) hx hb hK hP 5 3 rfl rfl (by omega) (by decide) dX5_tellsTen_58 ?_
                  refine q_reI (show (m_pad M i17 : Int32) = C i17 from hpd i17 (by omega)) ?_
                  refine lv_bipush (v := 45) hx hb dX5_tellsTen_59 (by decide) ?_
                  refine lv_icmp_ne (tgt := 68) hx hb dX5_tellsTen_61 (by decide) (fun c_61 => ?_) (fun c_61 => ?_)
                  · skip
                    refine lv_iconst (v := 0) hx hb dX5_tellsTen_68 (by decide) ?_
                    refine lv_istore_n (lv' := [(2, .int 0), (3, .int (nI i17)), (0, .ref (d 0)), (1, .int (bI bd))]) hx hb dX5_tellsTen_69 rfl hl (by decide) rfl (fun ls hl => ?_)
                    refine lv_iinc (v := nI (i17 + 1)) (lv' := [(3, .int (nI (i17 + 1))), (2, .int 0), (0, .ref (d 0)), (1, .int (bI bd))]) hx hb dX5_tellsTen_70 hl (k := 1) rfl (nI_1 _) (by decide) rfl (fun ls hl => ?_)
                    refine lv_goto (tgt := 17) hx hb dX5_tellsTen_73 (by decide) ?_
                    exact ih_i17 (i17 + 1) 0 (by first | (rw [ten_s1 hb1 hb2 (by simp [ten1, isDg, c_6, hb1, hb2, c_24, c_35, c_46, c_50, c_61])]; rfl) | (rw [ten_s0 hb1 hb2 (by simp [ten1, isDg, c_6, hb1, hb2, c_24, c_35, c_46, c_50, c_61])]; rfl)) lt_i17 (by omega) ls (lv_sub hl [0, 1, 2, 3] rfl)
                  · skip
                    refine lv_iconst (v := 1) hx hb dX5_tellsTen_64 (by decide) ?_
                    refine lv_goto (tgt := 69) hx hb dX5_tellsTen_65 (by decide) ?_
                    refine lv_istore_n (lv' := [(2, .int 1), (3, .int (nI i17)), (0, .ref (d 0)), (1, .int (bI bd))]) hx hb dX5_tellsTen_69 rfl hl (by decide) rfl (fun ls hl => ?_)
                    refine lv_iinc (v := nI (i17 + 1)) (lv' := [(3, .int (nI (i17 + 1))), (2, .int 1), (0, .ref (d 0)), (1, .int (bI bd))]) hx hb dX5_tellsTen_70 hl (k := 1) rfl (nI_1 _) (by decide) rfl (fun ls hl => ?_)
                    refine lv_goto (tgt := 17) hx hb dX5_tellsTen_73 (by decide) ?_
                    exact ih_i17 (i17 + 1) 1 (by first | (rw [ten_s1 hb1 hb2 (by simp [ten1, isDg, c_6, hb1, hb2, c_24, c_35, c_46, c_50, c_61])]; rfl) | (rw [ten_s0 hb1 hb2 (by simp [ten1, isDg, c_6, hb1, hb2, c_24, c_35, c_46, c_50, c_61])]; rfl)) lt_i17 (by omega) ls (lv_sub hl [0, 1, 2, 3] rfl)
    exact L_17 (10 + 1) 0 0 (by first | (simp [q_any, bI, c_6]; done) | rfl) (Nat.zero_le _) (by omega) ls (lv_sub hl [0, 1, 2, 3] rfl)
  · skip
    have c_6 : n = 10 := (nI_eq (by omega) (by decide)).mp (show nI n = nI 10 from c_6)
    refine lv_iconst (v := 1) hx hb dX5_tellsTen_9 (by decide) ?_
    refine lv_goto (tgt := 14) hx hb dX5_tellsTen_10 (by decide) ?_
    refine lv_istore_n (lv' := [(2, .int 1), (0, .ref (d 0)), (1, .int (bI bd))]) hx hb dX5_tellsTen_14 rfl hl (by decide) rfl (fun ls hl => ?_)
    refine lv_iconst (v := 0) hx hb dX5_tellsTen_15 (by decide) ?_
    refine lv_istore_n (lv' := [(3, .int 0), (2, .int 1), (0, .ref (d 0)), (1, .int (bI bd))]) hx hb dX5_tellsTen_16 rfl hl (by decide) rfl (fun ls hl => ?_)
    have L_17 : ∀ (fu i17 : Nat) (y2_17 : Int32), y2_17 = bI (decide (n = 10) && !q_any (fun k => !ten1 C bd k) i17) → i17 ≤ 10 → 10 < i17 + fu → ∀ ls : Array Slot, lv_has ls 4 [(3, .int (nI i17)), (2, .int y2_17), (0, .ref (d 0)), (1, .int (bI bd))] → W p l e { frames := 0, cells := 0, slots := 0, locals := 0 } s m args below meth c s.heap [] 0 0 (MQ below (k2_QcV (.int (bI (tenP C n bd)))) args s 0 0 (fun _ => False)) (F0 m 17 ls []) := by
      intro fu
      induction fu with
      | zero => intro i17 y2_17 ey2_17 hi_i17 hn_i17; exact absurd hn_i17 (by omega)
      | succ fu ih_i17 =>
        intro i17 y2_17 ey2_17 hi_i17 hn_i17 ls hl
        subst ey2_17
        refine lv_iload_n hx hb dX5_tellsTen_17 rfl (lv_at hl 0 rfl) ?_
        refine lv_bipush (v := 10) hx hb dX5_tellsTen_18 (by decide) ?_
        refine lv_icmp_ge (tgt := 76) hx hb dX5_tellsTen_20 (by decide) (fun c_20 => ?_) (fun c_20 => ?_)
        · skip
          have e_20 : i17 = 10 := q_ge_T (by omega) hi_i17 c_20
          subst e_20
          refine lv_iload_n hx hb dX5_tellsTen_76 rfl (lv_at hl 1 rfl) ?_
          exact q_zret hx hb hr hlk dX5_tellsTen_77 (by first | rfl | (rw [hfin]; rfl) | (rw [hfin, c_6]; done) | (rw [hfin]; simp_all [bI]))
        · skip
          have lt_i17 : i17 < 10 := q_ge_F (by omega) hi_i17 c_20
          refine lv_iload_n hx hb dX5_tellsTen_23 rfl (lv_at hl 1 rfl) ?_
          refine lv_if_eq (tgt := 76) hx hb dX5_tellsTen_24 (by decide) (fun c_24 => ?_) (fun c_24 => ?_)
          · skip
            have c_24 : (decide (n = 10) && !q_any (fun k => !ten1 C bd k) i17) = false := bI_eq c_24
            have hfin := ten_e (by omega) c_24
            refine lv_iload_n hx hb dX5_tellsTen_76 rfl (lv_at hl 1 rfl) ?_
            exact q_zret hx hb hr hlk dX5_tellsTen_77 (by first | rfl | (rw [hfin]; rfl) | (rw [hfin, c_6, c_24]; done) | (rw [hfin]; simp_all [bI]))
          · skip
            have c_24 : (decide (n = 10) && !q_any (fun k => !ten1 C bd k) i17) = true := bI_ne c_24
            have hb1 : n = 10 := by simp only [Bool.and_eq_true, decide_eq_true_eq] at c_24; exact c_24.1
            have hb2 : q_any (fun k => !ten1 C bd k) i17 = false := by simpa [hb1] using c_24
            refine lv_aload_n hx hb dX5_tellsTen_27 rfl (lv_at hl 2 rfl) ?_
            refine va_get (D := g.1) (ci := 4) (v := .ref (d 5)) (C := RX5) (T := TX5) (N := 7) hx hb hts hi_X5 hown hK hP 0 rfl rfl 4 (by decide) fl_23 (fun _ h9 => h9) rfl dX5_tellsTen_28 ?_
            refine lv_iload_n hx hb dX5_tellsTen_31 rfl (lv_at hl 0 rfl) ?_
            refine q_cald (j := i17) hx hb hK hP 5 3 rfl rfl (by omega) (by decide) dX5_tellsTen_32 ?_
            refine q_reI (show (m_pad M i17 : Int32) = C i17 from hpd i17 (by omega)) ?_
            refine lv_bipush (v := 48) hx hb dX5_tellsTen_33 (by decide) ?_
            refine lv_icmp_lt (tgt := 49) hx hb dX5_tellsTen_35 (by decide) (fun c_35 => ?_) (fun c_35 => ?_)
            · skip
              refine lv_iload_n hx hb dX5_tellsTen_49 rfl (lv_at hl 3 rfl) ?_
              refine lv_if_ne (tgt := 68) hx hb dX5_tellsTen_50 (by decide) (fun c_50 => ?_) (fun c_50 => ?_)
              · skip
                have c_50 : bd = true := bI_ne c_50
                refine lv_iconst (v := 0) hx hb dX5_tellsTen_68 (by decide) ?_
                refine lv_istore_n (lv' := [(2, .int 0), (3, .int (nI i17)), (0, .ref (d 0)), (1, .int (bI bd))]) hx hb dX5_tellsTen_69 rfl hl (by decide) rfl (fun ls hl => ?_)
                refine lv_iinc (v := nI (i17 + 1)) (lv' := [(3, .int (nI (i17 + 1))), (2, .int 0), (0, .ref (d 0)), (1, .int (bI bd))]) hx hb dX5_tellsTen_70 hl (k := 1) rfl (nI_1 _) (by decide) rfl (fun ls hl => ?_)
                refine lv_goto (tgt := 17) hx hb dX5_tellsTen_73 (by decide) ?_
                exact ih_i17 (i17 + 1) 0 (by first | (rw [ten_s1 hb1 hb2 (by simp [ten1, isDg, c_6, hb1, hb2, c_24, c_35, c_50])]; rfl) | (rw [ten_s0 hb1 hb2 (by simp [ten1, isDg, c_6, hb1, hb2, c_24, c_35, c_50])]; rfl)) lt_i17 (by omega) ls (lv_sub hl [0, 1, 2, 3] rfl)
              · skip
                have c_50 : bd = false := bI_eq c_50
                refine lv_aload_n hx hb dX5_tellsTen_53 rfl (lv_at hl 2 rfl) ?_
                refine va_get (D := g.1) (ci := 4) (v := .ref (d 5)) (C := RX5) (T := TX5) (N := 7) hx hb hts hi_X5 hown hK hP 0 rfl rfl 4 (by decide) fl_23 (fun _ h9 => h9) rfl dX5_tellsTen_54 ?_
                refine lv_iload_n hx hb dX5_tellsTen_57 rfl (lv_at hl 0 rfl) ?_
                refine q_cald (j := i17) hx hb hK hP 5 3 rfl rfl (by omega) (by decide) dX5_tellsTen_58 ?_
                refine q_reI (show (m_pad M i17 : Int32) = C i17 from hpd i17 (by omega)) ?_
                refine lv_bipush (v := 45) hx hb dX5_tellsTen_59 (by decide) ?_
                refine lv_icmp_ne (tgt := 68) hx hb dX5_tellsTen_61 (by decide) (fun c_61 => ?_) (fun c_61 => ?_)
                · skip
                  refine lv_iconst (v := 0) hx hb dX5_tellsTen_68 (by decide) ?_
                  refine lv_istore_n (lv' := [(2, .int 0), (3, .int (nI i17)), (0, .ref (d 0)), (1, .int (bI bd))]) hx hb dX5_tellsTen_69 rfl hl (by decide) rfl (fun ls hl => ?_)
                  refine lv_iinc (v := nI (i17 + 1)) (lv' := [(3, .int (nI (i17 + 1))), (2, .int 0), (0, .ref (d 0)), (1, .int (bI bd))]) hx hb dX5_tellsTen_70 hl (k := 1) rfl (nI_1 _) (by decide) rfl (fun ls hl => ?_)
                  refine lv_goto (tgt := 17) hx hb dX5_tellsTen_73 (by decide) ?_
                  exact ih_i17 (i17 + 1) 0 (by first | (rw [ten_s1 hb1 hb2 (by simp [ten1, isDg, c_6, hb1, hb2, c_24, c_35, c_50, c_61])]; rfl) | (rw [ten_s0 hb1 hb2 (by simp [ten1, isDg, c_6, hb1, hb2, c_24, c_35, c_50, c_61])]; rfl)) lt_i17 (by omega) ls (lv_sub hl [0, 1, 2, 3] rfl)
                · skip
                  refine lv_iconst (v := 1) hx hb dX5_tellsTen_64 (by decide) ?_
                  refine lv_goto (tgt := 69) hx hb dX5_tellsTen_65 (by decide) ?_
                  refine lv_istore_n (lv' := [(2, .int 1), (3, .int (nI i17)), (0, .ref (d 0)), (1, .int (bI bd))]) hx hb dX5_tellsTen_69 rfl hl (by decide) rfl (fun ls hl => ?_)
                  refine lv_iinc (v := nI (i17 + 1)) (lv' := [(3, .int (nI (i17 + 1))), (2, .int 1), (0, .ref (d 0)), (1, .int (bI bd))]) hx hb dX5_tellsTen_70 hl (k := 1) rfl (nI_1 _) (by decide) rfl (fun ls hl => ?_)
                  refine lv_goto (tgt := 17) hx hb dX5_tellsTen_73 (by decide) ?_
                  exact ih_i17 (i17 + 1) 1 (by first | (rw [ten_s1 hb1 hb2 (by simp [ten1, isDg, c_6, hb1, hb2, c_24, c_35, c_50, c_61])]; rfl) | (rw [ten_s0 hb1 hb2 (by simp [ten1, isDg, c_6, hb1, hb2, c_24, c_35, c_50, c_61])]; rfl)) lt_i17 (by omega) ls (lv_sub hl [0, 1, 2, 3] rfl)
            · skip
              refine lv_aload_n hx hb dX5_tellsTen_38 rfl (lv_at hl 2 rfl) ?_
              refine va_get (D := g.1) (ci := 4) (v := .ref (d 5)) (C := RX5) (T := TX5) (N := 7) hx hb hts hi_X5 hown hK hP 0 rfl rfl 4 (by decide) fl_23 (fun _ h9 => h9) rfl dX5_tellsTen_39 ?_
              refine lv_iload_n hx hb dX5_tellsTen_42 rfl (lv_at hl 0 rfl) ?_
              refine q_cald (j := i17) hx hb hK hP 5 3 rfl rfl (by omega) (by decide) dX5_tellsTen_43 ?_
              refine q_reI (show (m_pad M i17 : Int32) = C i17 from hpd i17 (by omega)) ?_
              refine lv_bipush (v := 57) hx hb dX5_tellsTen_44 (by decide) ?_
              refine lv_icmp_le (tgt := 64) hx hb dX5_tellsTen_46 (by decide) (fun c_46 => ?_) (fun c_46 => ?_)
              · skip
                have c_46 := Int32.not_lt.mpr c_46
                refine lv_iconst (v := 1) hx hb dX5_tellsTen_64 (by decide) ?_
                refine lv_goto (tgt := 69) hx hb dX5_tellsTen_65 (by decide) ?_
                refine lv_istore_n (lv' := [(2, .int 1), (3, .int (nI i17)), (0, .ref (d 0)), (1, .int (bI bd))]) hx hb dX5_tellsTen_69 rfl hl (by decide) rfl (fun ls hl => ?_)
                refine lv_iinc (v := nI (i17 + 1)) (lv' := [(3, .int (nI (i17 + 1))), (2, .int 1), (0, .ref (d 0)), (1, .int (bI bd))]) hx hb dX5_tellsTen_70 hl (k := 1) rfl (nI_1 _) (by decide) rfl (fun ls hl => ?_)
                refine lv_goto (tgt := 17) hx hb dX5_tellsTen_73 (by decide) ?_
                exact ih_i17 (i17 + 1) 1 (by first | (rw [ten_s1 hb1 hb2 (by simp [ten1, isDg, c_6, hb1, hb2, c_24, c_35, c_46])]; rfl) | (rw [ten_s0 hb1 hb2 (by simp [ten1, isDg, c_6, hb1, hb2, c_24, c_35, c_46])]; rfl)) lt_i17 (by omega) ls (lv_sub hl [0, 1, 2, 3] rfl)
              · skip
                have c_46 := Int32.not_le.mp c_46
                refine lv_iload_n hx hb dX5_tellsTen_49 rfl (lv_at hl 3 rfl) ?_
                refine lv_if_ne (tgt := 68) hx hb dX5_tellsTen_50 (by decide) (fun c_50 => ?_) (fun c_50 => ?_)
                · skip
                  have c_50 : bd = true := bI_ne c_50
                  refine lv_iconst (v := 0) hx hb dX5_tellsTen_68 (by decide) ?_
                  refine lv_istore_n (lv' := [(2, .int 0), (3, .int (nI i17)), (0, .ref (d 0)), (1, .int (bI bd))]) hx hb dX5_tellsTen_69 rfl hl (by decide) rfl (fun ls hl => ?_)
                  refine lv_iinc (v := nI (i17 + 1)) (lv' := [(3, .int (nI (i17 + 1))), (2, .int 0), (0, .ref (d 0)), (1, .int (bI bd))]) hx hb dX5_tellsTen_70 hl (k := 1) rfl (nI_1 _) (by decide) rfl (fun ls hl => ?_)
                  refine lv_goto (tgt := 17) hx hb dX5_tellsTen_73 (by decide) ?_
                  exact ih_i17 (i17 + 1) 0 (by first | (rw [ten_s1 hb1 hb2 (by simp [ten1, isDg, c_6, hb1, hb2, c_24, c_35, c_46, c_50])]; rfl) | (rw [ten_s0 hb1 hb2 (by simp [ten1, isDg, c_6, hb1, hb2, c_24, c_35, c_46, c_50])]; rfl)) lt_i17 (by omega) ls (lv_sub hl [0, 1, 2, 3] rfl)
                · skip
                  have c_50 : bd = false := bI_eq c_50
                  refine lv_aload_n hx hb dX5_tellsTen_53 rfl (lv_at hl 2 rfl) ?_
                  refine va_get (D := g.1) (ci := 4) (v := .ref (d 5)) (C := RX5) (T := TX5) (N := 7) hx hb hts hi_X5 hown hK hP 0 rfl rfl 4 (by decide) fl_23 (fun _ h9 => h9) rfl dX5_tellsTen_54 ?_
                  refine lv_iload_n hx hb dX5_tellsTen_57 rfl (lv_at hl 0 rfl) ?_
                  refine q_cald (j := i17) hx hb hK hP 5 3 rfl rfl (by omega) (by decide) dX5_tellsTen_58 ?_
                  refine q_reI (show (m_pad M i17 : Int32) = C i17 from hpd i17 (by omega)) ?_
                  refine lv_bipush (v := 45) hx hb dX5_tellsTen_59 (by decide) ?_
                  refine lv_icmp_ne (tgt := 68) hx hb dX5_tellsTen_61 (by decide) (fun c_61 => ?_) (fun c_61 => ?_)
                  · skip
                    refine lv_iconst (v := 0) hx hb dX5_tellsTen_68 (by decide) ?_
                    refine lv_istore_n (lv' := [(2, .int 0), (3, .int (nI i17)), (0, .ref (d 0)), (1, .int (bI bd))]) hx hb dX5_tellsTen_69 rfl hl (by decide) rfl (fun ls hl => ?_)
                    refine lv_iinc (v := nI (i17 + 1)) (lv' := [(3, .int (nI (i17 + 1))), (2, .int 0), (0, .ref (d 0)), (1, .int (bI bd))]) hx hb dX5_tellsTen_70 hl (k := 1) rfl (nI_1 _) (by decide) rfl (fun ls hl => ?_)
                    refine lv_goto (tgt := 17) hx hb dX5_tellsTen_73 (by decide) ?_
                    exact ih_i17 (i17 + 1) 0 (by first | (rw [ten_s1 hb1 hb2 (by simp [ten1, isDg, c_6, hb1, hb2, c_24, c_35, c_46, c_50, c_61])]; rfl) | (rw [ten_s0 hb1 hb2 (by simp [ten1, isDg, c_6, hb1, hb2, c_24, c_35, c_46, c_50, c_61])]; rfl)) lt_i17 (by omega) ls (lv_sub hl [0, 1, 2, 3] rfl)
                  · skip
                    refine lv_iconst (v := 1) hx hb dX5_tellsTen_64 (by decide) ?_
                    refine lv_goto (tgt := 69) hx hb dX5_tellsTen_65 (by decide) ?_
                    refine lv_istore_n (lv' := [(2, .int 1), (3, .int (nI i17)), (0, .ref (d 0)), (1, .int (bI bd))]) hx hb dX5_tellsTen_69 rfl hl (by decide) rfl (fun ls hl => ?_)
                    refine lv_iinc (v := nI (i17 + 1)) (lv' := [(3, .int (nI (i17 + 1))), (2, .int 1), (0, .ref (d 0)), (1, .int (bI bd))]) hx hb dX5_tellsTen_70 hl (k := 1) rfl (nI_1 _) (by decide) rfl (fun ls hl => ?_)
                    refine lv_goto (tgt := 17) hx hb dX5_tellsTen_73 (by decide) ?_
                    exact ih_i17 (i17 + 1) 1 (by first | (rw [ten_s1 hb1 hb2 (by simp [ten1, isDg, c_6, hb1, hb2, c_24, c_35, c_46, c_50, c_61])]; rfl) | (rw [ten_s0 hb1 hb2 (by simp [ten1, isDg, c_6, hb1, hb2, c_24, c_35, c_46, c_50, c_61])]; rfl)) lt_i17 (by omega) ls (lv_sub hl [0, 1, 2, 3] rfl)
    exact L_17 (10 + 1) 0 1 (by first | (simp [q_any, bI, c_6]; done) | rfl) (Nat.zero_le _) (by omega) ls (lv_sub hl [0, 1, 2, 3] rfl)

set_option maxHeartbeats 4000000 in
set_option maxRecDepth 100000 in
theorem c_X5_fault (l : Launch) (g : q_G) (d : Nat → Nat) (M : q_MV) (C : Nat → Int32) (n : Nat) (hn8 : n ≤ 80) (hln : m_len M = n) (hpd : ∀ k, k < n → m_pad M k = C k) : q_PM l yX5_fault wsX5_fault { frames := 0, cells := 0, slots := 0, locals := 0 } [.ref (d 0)] (q_B g (q_mdW g d M)) (.int (fauI C n)) := by
  refine q_pm (cc := cX5_fault) (maxL := 2) (ret := (some .int)) (by decide) rfl (Nat.le_of_ble_eq_true rfl) ?_
  intro p e s m args below meth c ls hx hb hml hown hts hr hlk hB hl
  obtain ⟨hP, hK, hN⟩ := hB
  have fl_23 := hts (.fieldLink RX5 23 "PubQuizzesModel" "pad" "[C") (by decide +kernel)
  have fl_92 := hts (.fieldLink RX5 92 "PubQuizzesModel" "length" "I") (by decide +kernel)
  have hi_X5 : ∀ w ∈ u_ws RX5 TX5 7, w ∈ wsX5_fault := by decide +kernel
  have hl : lv_has ls 2 [(0, .ref (d 0))] := hl
  refine lv_iconst (v := 0) hx hb dX5_fault_0 (by decide) ?_
  refine lv_istore_n (lv' := [(1, .int 0), (0, .ref (d 0))]) hx hb dX5_fault_1 rfl hl (by decide) rfl (fun ls hl => ?_)
  have L_2 : ∀ (fu i2 : Nat), (lead (pdf C) i2 = i2) → i2 ≤ n → n < i2 + fu → ∀ ls : Array Slot, lv_has ls 2 [(1, .int (nI i2)), (0, .ref (d 0))] → W p l e { frames := 0, cells := 0, slots := 0, locals := 0 } s m args below meth c s.heap [] 0 0 (MQ below (k2_QcV (.int (fauI C n))) args s 0 0 (fun _ => False)) (F0 m 2 ls []) := by
    intro fu
    induction fu with
    | zero => intro i2 hf hi_i2 hn_i2; exact absurd hn_i2 (by omega)
    | succ fu ih_i2 =>
      intro i2 hf hi_i2 hn_i2 ls hl
      refine lv_iload_n hx hb dX5_fault_2 rfl (lv_at hl 0 rfl) ?_
      refine lv_aload_n hx hb dX5_fault_3 rfl (lv_at hl 1 rfl) ?_
      refine va_get (D := g.1) (ci := 4) (v := .int (nI (m_len M))) (C := RX5) (T := TX5) (N := 7) hx hb hts hi_X5 hown hK hP 0 rfl rfl 5 (by decide) fl_92 (fun _ h9 => h9) rfl dX5_fault_4 ?_
      refine q_reI (show (nI (m_len M) : Int32) = nI n from by rw [hln]) ?_
      refine lv_icmp_ge (tgt := 55) hx hb dX5_fault_7 (by decide) (fun c_7 => ?_) (fun c_7 => ?_)
      · skip
        have e_7 : i2 = n := q_ge_T (by omega) hi_i2 c_7
        have hfin : lead (pdf C) n = i2 := by rw [← e_7]; exact hf
        refine lv_iload_n hx hb dX5_fault_55 rfl (lv_at hl 0 rfl) ?_
        refine lv_bipush (v := 10) hx hb dX5_fault_56 (by decide) ?_
        refine lv_icmp_ne (tgt := 75) hx hb dX5_fault_58 (by decide) (fun c_58 => ?_) (fun c_58 => ?_)
        · skip
          have c_58 : ¬ i2 = 10 := fun q => c_58 (by rw [q]; rfl)
          refine lv_iload_n hx hb dX5_fault_75 rfl (lv_at hl 0 rfl) ?_
          exact q_iret hx hb hr hlk dX5_fault_76 (by first | rw [fauI, hfin, if_pos (And.intro c_58 c_67)] | rw [fauI, hfin, if_neg (fun q => c_67 q.2)] | rw [fauI, hfin, if_neg (fun q => c_58 q.1)])
        · skip
          have c_58 : i2 = 10 := (nI_eq (by omega) (by decide)).mp (show nI i2 = nI 10 from c_58)
          refine lv_aload_n hx hb dX5_fault_61 rfl (lv_at hl 1 rfl) ?_
          refine va_get (D := g.1) (ci := 4) (v := .int (nI (m_len M))) (C := RX5) (T := TX5) (N := 7) hx hb hts hi_X5 hown hK hP 0 rfl rfl 5 (by decide) fl_92 (fun _ h9 => h9) rfl dX5_fault_62 ?_
          refine q_reI (show (nI (m_len M) : Int32) = nI n from by rw [hln]) ?_
          refine lv_bipush (v := 10) hx hb dX5_fault_65 (by decide) ?_
          refine lv_icmp_ne (tgt := 75) hx hb dX5_fault_67 (by decide) (fun c_67 => ?_) (fun c_67 => ?_)
          · skip
            have c_67 : ¬ n = 10 := fun q => c_67 (by rw [q]; rfl)
            refine lv_iload_n hx hb dX5_fault_75 rfl (lv_at hl 0 rfl) ?_
            exact q_iret hx hb hr hlk dX5_fault_76 (by first | rw [fauI, hfin, if_pos (And.intro c_58 c_67)] | rw [fauI, hfin, if_neg (fun q => c_67 q.2)] | rw [fauI, hfin, if_neg (fun q => c_58 q.1)])
          · skip
            have c_67 : n = 10 := (nI_eq (by omega) (by decide)).mp (show nI n = nI 10 from c_67)
            refine lv_bipush (v := (-6)) hx hb dX5_fault_70 (by decide) ?_
            refine lv_goto (tgt := 76) hx hb dX5_fault_72 (by decide) ?_
            exact q_iret hx hb hr hlk dX5_fault_76 (by first | rw [fauI, hfin, if_pos (And.intro c_58 c_67)] | rw [fauI, hfin, if_neg (fun q => c_67 q.2)] | rw [fauI, hfin, if_neg (fun q => c_58 q.1)])
      · skip
        have lt_i2 : i2 < n := q_ge_F (by omega) hi_i2 c_7
        refine lv_iload_n hx hb dX5_fault_10 rfl (lv_at hl 0 rfl) ?_
        refine lv_bipush (v := 10) hx hb dX5_fault_11 (by decide) ?_
        refine lv_icmp_ge (tgt := 55) hx hb dX5_fault_13 (by decide) (fun c_13 => ?_) (fun c_13 => ?_)
        · skip
          have c_13 := (nI_leI (a := 10) (by decide) (by omega)).mp c_13
          have hfin : lead (pdf C) n = i2 := lead_stop hf (by simp [pdf]; omega) (by omega)
          refine lv_iload_n hx hb dX5_fault_55 rfl (lv_at hl 0 rfl) ?_
          refine lv_bipush (v := 10) hx hb dX5_fault_56 (by decide) ?_
          refine lv_icmp_ne (tgt := 75) hx hb dX5_fault_58 (by decide) (fun c_58 => ?_) (fun c_58 => ?_)
          · skip
            have c_58 : ¬ i2 = 10 := fun q => c_58 (by rw [q]; rfl)
            refine lv_iload_n hx hb dX5_fault_75 rfl (lv_at hl 0 rfl) ?_
            exact q_iret hx hb hr hlk dX5_fault_76 (by first | rw [fauI, hfin, if_pos (And.intro c_58 c_67)] | rw [fauI, hfin, if_neg (fun q => c_67 q.2)] | rw [fauI, hfin, if_neg (fun q => c_58 q.1)])
          · skip
            have c_58 : i2 = 10 := (nI_eq (by omega) (by decide)).mp (show nI i2 = nI 10 from c_58)
            refine lv_aload_n hx hb dX5_fault_61 rfl (lv_at hl 1 rfl) ?_
            refine va_get (D := g.1) (ci := 4) (v := .int (nI (m_len M))) (C := RX5) (T := TX5) (N := 7) hx hb hts hi_X5 hown hK hP 0 rfl rfl 5 (by decide) fl_92 (fun _ h9 => h9) rfl dX5_fault_62 ?_
            refine q_reI (show (nI (m_len M) : Int32) = nI n from by rw [hln]) ?_
            refine lv_bipush (v := 10) hx hb dX5_fault_65 (by decide) ?_
            refine lv_icmp_ne (tgt := 75) hx hb dX5_fault_67 (by decide) (fun c_67 => ?_) (fun c_67 => ?_)
            · skip
              have c_67 : ¬ n = 10 := fun q => c_67 (by rw [q]; rfl)
              refine lv_iload_n hx hb dX5_fault_75 rfl (lv_at hl 0 rfl) ?_
              exact q_iret hx hb hr hlk dX5_fault_76 (by first | rw [fauI, hfin, if_pos (And.intro c_58 c_67)] | rw [fauI, hfin, if_neg (fun q => c_67 q.2)] | rw [fauI, hfin, if_neg (fun q => c_58 q.1)])
            · skip
              have c_67 : n = 10 := (nI_eq (by omega) (by decide)).mp (show nI n = nI 10 from c_67)
              refine lv_bipush (v := (-6)) hx hb dX5_fault_70 (by decide) ?_
              refine lv_goto (tgt := 76) hx hb dX5_fault_72 (by decide) ?_
              exact q_iret hx hb hr hlk dX5_fault_76 (by first | rw [fauI, hfin, if_pos (And.intro c_58 c_67)] | rw [fauI, hfin, if_neg (fun q => c_67 q.2)] | rw [fauI, hfin, if_neg (fun q => c_58 q.1)])
        · skip
          have c_13N : ¬ 10 ≤ i2 := fun q => c_13 (nI_le q (by omega))
          refine lv_aload_n hx hb dX5_fault_16 rfl (lv_at hl 1 rfl) ?_
          refine va_get (D := g.1) (ci := 4) (v := .ref (d 5)) (C := RX5) (T := TX5) (N := 7) hx hb hts hi_X5 hown hK hP 0 rfl rfl 4 (by decide) fl_23 (fun _ h9 => h9) rfl dX5_fault_17 ?_
          refine lv_iload_n hx hb dX5_fault_20 rfl (lv_at hl 0 rfl) ?_
          refine q_cald (j := i2) hx hb hK hP 5 3 rfl rfl (by omega) (by decide) dX5_fault_21 ?_
          refine q_reI (show (m_pad M i2 : Int32) = C i2 from hpd i2 (by omega)) ?_
          refine lv_bipush (v := 48) hx hb dX5_fault_22 (by decide) ?_
          refine lv_icmp_lt (tgt := 38) hx hb dX5_fault_24 (by decide) (fun c_24 => ?_) (fun c_24 => ?_)
          · skip
            refine lv_aload_n hx hb dX5_fault_38 rfl (lv_at hl 1 rfl) ?_
            refine va_get (D := g.1) (ci := 4) (v := .ref (d 5)) (C := RX5) (T := TX5) (N := 7) hx hb hts hi_X5 hown hK hP 0 rfl rfl 4 (by decide) fl_23 (fun _ h9 => h9) rfl dX5_fault_39 ?_
            refine lv_iload_n hx hb dX5_fault_42 rfl (lv_at hl 0 rfl) ?_
            refine q_cald (j := i2) hx hb hK hP 5 3 rfl rfl (by omega) (by decide) dX5_fault_43 ?_
            refine q_reI (show (m_pad M i2 : Int32) = C i2 from hpd i2 (by omega)) ?_
            refine lv_bipush (v := 45) hx hb dX5_fault_44 (by decide) ?_
            refine lv_icmp_ne (tgt := 55) hx hb dX5_fault_46 (by decide) (fun c_46 => ?_) (fun c_46 => ?_)
            · skip
              have hfin : lead (pdf C) n = i2 := lead_stop hf (by simp [pdf, isSg, isDg, c_13, c_24, c_46]) (by omega)
              refine lv_iload_n hx hb dX5_fault_55 rfl (lv_at hl 0 rfl) ?_
              refine lv_bipush (v := 10) hx hb dX5_fault_56 (by decide) ?_
              refine lv_icmp_ne (tgt := 75) hx hb dX5_fault_58 (by decide) (fun c_58 => ?_) (fun c_58 => ?_)
              · skip
                have c_58 : ¬ i2 = 10 := fun q => c_58 (by rw [q]; rfl)
                refine lv_iload_n hx hb dX5_fault_75 rfl (lv_at hl 0 rfl) ?_
                exact q_iret hx hb hr hlk dX5_fault_76 (by first | rw [fauI, hfin, if_pos (And.intro c_58 c_67)] | rw [fauI, hfin, if_neg (fun q => c_67 q.2)] | rw [fauI, hfin, if_neg (fun q => c_58 q.1)])
              · skip
                have c_58 : i2 = 10 := (nI_eq (by omega) (by decide)).mp (show nI i2 = nI 10 from c_58)
                refine lv_aload_n hx hb dX5_fault_61 rfl (lv_at hl 1 rfl) ?_
                refine va_get (D := g.1) (ci := 4) (v := .int (nI (m_len M))) (C := RX5) (T := TX5) (N := 7) hx hb hts hi_X5 hown hK hP 0 rfl rfl 5 (by decide) fl_92 (fun _ h9 => h9) rfl dX5_fault_62 ?_
                refine q_reI (show (nI (m_len M) : Int32) = nI n from by rw [hln]) ?_
                refine lv_bipush (v := 10) hx hb dX5_fault_65 (by decide) ?_
                refine lv_icmp_ne (tgt := 75) hx hb dX5_fault_67 (by decide) (fun c_67 => ?_) (fun c_67 => ?_)
                · skip
                  have c_67 : ¬ n = 10 := fun q => c_67 (by rw [q]; rfl)
                  refine lv_iload_n hx hb dX5_fault_75 rfl (lv_at hl 0 rfl) ?_
                  exact q_iret hx hb hr hlk dX5_fault_76 (by first | rw [fauI, hfin, if_pos (And.intro c_58 c_67)] | rw [fauI, hfin, if_neg (fun q => c_67 q.2)] | rw [fauI, hfin, if_neg (fun q => c_58 q.1)])
                · skip
                  have c_67 : n = 10 := (nI_eq (by omega) (by decide)).mp (show nI n = nI 10 from c_67)
                  refine lv_bipush (v := (-6)) hx hb dX5_fault_70 (by decide) ?_
                  refine lv_goto (tgt := 76) hx hb dX5_fault_72 (by decide) ?_
                  exact q_iret hx hb hr hlk dX5_fault_76 (by first | rw [fauI, hfin, if_pos (And.intro c_58 c_67)] | rw [fauI, hfin, if_neg (fun q => c_67 q.2)] | rw [fauI, hfin, if_neg (fun q => c_58 q.1)])
            · skip
              refine lv_iinc (v := nI (i2 + 1)) (lv' := [(1, .int (nI (i2 + 1))), (0, .ref (d 0))]) hx hb dX5_fault_49 hl (k := 0) rfl (nI_1 _) (by decide) rfl (fun ls hl => ?_)
              refine lv_goto (tgt := 2) hx hb dX5_fault_52 (by decide) ?_
              exact ih_i2 (i2 + 1) (lead_s hf (by simp [pdf, isSg, isDg, c_13, c_24, c_46]; omega)) lt_i2 (by omega) ls (lv_sub hl [0, 1] rfl)
          · skip
            refine lv_aload_n hx hb dX5_fault_27 rfl (lv_at hl 1 rfl) ?_
            refine va_get (D := g.1) (ci := 4) (v := .ref (d 5)) (C := RX5) (T := TX5) (N := 7) hx hb hts hi_X5 hown hK hP 0 rfl rfl 4 (by decide) fl_23 (fun _ h9 => h9) rfl dX5_fault_28 ?_
            refine lv_iload_n hx hb dX5_fault_31 rfl (lv_at hl 0 rfl) ?_
            refine q_cald (j := i2) hx hb hK hP 5 3 rfl rfl (by omega) (by decide) dX5_fault_32 ?_
            refine q_reI (show (m_pad M i2 : Int32) = C i2 from hpd i2 (by omega)) ?_
            refine lv_bipush (v := 57) hx hb dX5_fault_33 (by decide) ?_
            refine lv_icmp_le (tgt := 49) hx hb dX5_fault_35 (by decide) (fun c_35 => ?_) (fun c_35 => ?_)
            · skip
              have c_35 := Int32.not_lt.mpr c_35
              refine lv_iinc (v := nI (i2 + 1)) (lv' := [(1, .int (nI (i2 + 1))), (0, .ref (d 0))]) hx hb dX5_fault_49 hl (k := 0) rfl (nI_1 _) (by decide) rfl (fun ls hl => ?_)
              refine lv_goto (tgt := 2) hx hb dX5_fault_52 (by decide) ?_
              exact ih_i2 (i2 + 1) (lead_s hf (by simp [pdf, isSg, isDg, c_13, c_24, c_35]; omega)) lt_i2 (by omega) ls (lv_sub hl [0, 1] rfl)
            · skip
              have c_35 := Int32.not_le.mp c_35
              refine lv_aload_n hx hb dX5_fault_38 rfl (lv_at hl 1 rfl) ?_
              refine va_get (D := g.1) (ci := 4) (v := .ref (d 5)) (C := RX5) (T := TX5) (N := 7) hx hb hts hi_X5 hown hK hP 0 rfl rfl 4 (by decide) fl_23 (fun _ h9 => h9) rfl dX5_fault_39 ?_
              refine lv_iload_n hx hb dX5_fault_42 rfl (lv_at hl 0 rfl) ?_
              refine q_cald (j := i2) hx hb hK hP 5 3 rfl rfl (by omega) (by decide) dX5_fault_43 ?_
              refine q_reI (show (m_pad M i2 : Int32) = C i2 from hpd i2 (by omega)) ?_
              refine lv_bipush (v := 45) hx hb dX5_fault_44 (by decide) ?_
              refine lv_icmp_ne (tgt := 55) hx hb dX5_fault_46 (by decide) (fun c_46 => ?_) (fun c_46 => ?_)
              · skip
                have hfin : lead (pdf C) n = i2 := lead_stop hf (by simp [pdf, isSg, isDg, c_13, c_24, c_35, c_46]) (by omega)
                refine lv_iload_n hx hb dX5_fault_55 rfl (lv_at hl 0 rfl) ?_
                refine lv_bipush (v := 10) hx hb dX5_fault_56 (by decide) ?_
                refine lv_icmp_ne (tgt := 75) hx hb dX5_fault_58 (by decide) (fun c_58 => ?_) (fun c_58 => ?_)
                · skip
                  have c_58 : ¬ i2 = 10 := fun q => c_58 (by rw [q]; rfl)
                  refine lv_iload_n hx hb dX5_fault_75 rfl (lv_at hl 0 rfl) ?_
                  exact q_iret hx hb hr hlk dX5_fault_76 (by first | rw [fauI, hfin, if_pos (And.intro c_58 c_67)] | rw [fauI, hfin, if_neg (fun q => c_67 q.2)] | rw [fauI, hfin, if_neg (fun q => c_58 q.1)])
                · skip
                  have c_58 : i2 = 10 := (nI_eq (by omega) (by decide)).mp (show nI i2 = nI 10 from c_58)
                  refine lv_aload_n hx hb dX5_fault_61 rfl (lv_at hl 1 rfl) ?_
                  refine va_get (D := g.1) (ci := 4) (v := .int (nI (m_len M))) (C := RX5) (T := TX5) (N := 7) hx hb hts hi_X5 hown hK hP 0 rfl rfl 5 (by decide) fl_92 (fun _ h9 => h9) rfl dX5_fault_62 ?_
                  refine q_reI (show (nI (m_len M) : Int32) = nI n from by rw [hln]) ?_
                  refine lv_bipush (v := 10) hx hb dX5_fault_65 (by decide) ?_
                  refine lv_icmp_ne (tgt := 75) hx hb dX5_fault_67 (by decide) (fun c_67 => ?_) (fun c_67 => ?_)
                  · skip
                    have c_67 : ¬ n = 10 := fun q => c_67 (by rw [q]; rfl)
                    refine lv_iload_n hx hb dX5_fault_75 rfl (lv_at hl 0 rfl) ?_
                    exact q_iret hx hb hr hlk dX5_fault_76 (by first | rw [fauI, hfin, if_pos (And.intro c_58 c_67)] | rw [fauI, hfin, if_neg (fun q => c_67 q.2)] | rw [fauI, hfin, if_neg (fun q => c_58 q.1)])
                  · skip
                    have c_67 : n = 10 := (nI_eq (by omega) (by decide)).mp (show nI n = nI 10 from c_67)
                    refine lv_bipush (v := (-6)) hx hb dX5_fault_70 (by decide) ?_
                    refine lv_goto (tgt := 76) hx hb dX5_fault_72 (by decide) ?_
                    exact q_iret hx hb hr hlk dX5_fault_76 (by first | rw [fauI, hfin, if_pos (And.intro c_58 c_67)] | rw [fauI, hfin, if_neg (fun q => c_67 q.2)] | rw [fauI, hfin, if_neg (fun q => c_58 q.1)])
              · skip
                refine lv_iinc (v := nI (i2 + 1)) (lv' := [(1, .int (nI (i2 + 1))), (0, .ref (d 0))]) hx hb dX5_fault_49 hl (k := 0) rfl (nI_1 _) (by decide) rfl (fun ls hl => ?_)
                refine lv_goto (tgt := 2) hx hb dX5_fault_52 (by decide) ?_
                exact ih_i2 (i2 + 1) (lead_s hf (by simp [pdf, isSg, isDg, c_13, c_24, c_35, c_46]; omega)) lt_i2 (by omega) ls (lv_sub hl [0, 1] rfl)
  exact L_2 (n + 1) 0 (rfl) (Nat.zero_le _) (by omega) ls (lv_sub hl [0, 1] rfl)

set_option maxHeartbeats 4000000 in
set_option maxRecDepth 100000 in
theorem c_X5_teamsOf (l : Launch) (g : q_G) (d : Nat → Nat) (M : q_MV) (S : q_St) (K : Nat) (hc : q_cp S (m_s M)) (ho : q_ok K S) (hK5 : K ≤ 512) (r : Nat) (z : Int32) (h1_ : r < 8) : q_PM l yX5_teamsOf wsX5_teamsOf { frames := 1, cells := 0, slots := 0, locals := 21 } [.ref (d 0), .int (nI r), .int z] (q_B g (q_mdW g d M)) (.int (q_or (tem1 S r z) (s_n S))) := by
  refine q_pm (cc := cX5_teamsOf) (maxL := 7) (ret := (some .int)) (by decide) rfl (Nat.le_of_ble_eq_true rfl) ?_
  intro p e s m args below meth c ls hx hb hml hown hts hr hlk hB hl
  obtain ⟨hP, hK, hN⟩ := hB
  have hn10 := ok_n ho
  have fl_7 := hts (.fieldLink RX5 7 "PubQuizzesModel" "s" "[I") (by decide +kernel)
  have hi_X5 : ∀ w ∈ u_ws RX5 TX5 7, w ∈ wsX5_teamsOf := by decide +kernel
  have hl : lv_has ls 7 [(0, .ref (d 0)), (1, .int (nI r)), (2, .int z)] := hl
  refine lv_iconst (v := 0) hx hb dX5_teamsOf_0 (by decide) ?_
  refine lv_istore_n (lv' := [(3, .int 0), (0, .ref (d 0)), (1, .int (nI r)), (2, .int z)]) hx hb dX5_teamsOf_1 rfl hl (by decide) rfl (fun ls hl => ?_)
  refine lv_iconst (v := 0) hx hb dX5_teamsOf_2 (by decide) ?_
  refine lv_istore (lv' := [(4, .int 0), (3, .int 0), (0, .ref (d 0)), (1, .int (nI r)), (2, .int z)]) hx hb dX5_teamsOf_3 hl (by decide) rfl (fun ls hl => ?_)
  have L_5 : ∀ (fu i5 : Nat) (y3_5 : Int32), y3_5 = q_or (tem1 S r z) i5 → i5 ≤ s_n S → s_n S < i5 + fu → ∀ ls : Array Slot, lv_has ls 7 [(4, .int (nI i5)), (3, .int y3_5), (0, .ref (d 0)), (1, .int (nI r)), (2, .int z)] → W p l e { frames := 1, cells := 0, slots := 0, locals := 21 } s m args below meth c s.heap [] 0 0 (MQ below (k2_QcV (.int (q_or (tem1 S r z) (s_n S)))) args s 0 0 (fun _ => False)) (F0 m 5 ls []) := by
    intro fu
    induction fu with
    | zero => intro i5 y3_5 ey3_5 hi_i5 hn_i5; exact absurd hn_i5 (by omega)
    | succ fu ih_i5 =>
      intro i5 y3_5 ey3_5 hi_i5 hn_i5 ls hl
      subst ey3_5
      refine lv_iload hx hb dX5_teamsOf_5 (lv_at hl 0 rfl) ?_
      refine lv_aload_n hx hb dX5_teamsOf_7 rfl (lv_at hl 2 rfl) ?_
      refine va_get (D := g.1) (ci := 4) (v := .ref (d 1)) (C := RX5) (T := TX5) (N := 7) hx hb hts hi_X5 hown hK hP 0 rfl rfl 0 (by decide) fl_7 (fun _ h9 => h9) rfl dX5_teamsOf_8 ?_
      refine lv_iconst (v := 4) hx hb dX5_teamsOf_11 (by decide) ?_
      refine q_iald (j := 4) hx hb hK hP 1 0 rfl rfl (by omega) (by decide) dX5_teamsOf_12 ?_
      refine q_reI (show (m_s M 4 : Int32) = nI (s_n S) from cp_n hc) ?_
      refine lv_icmp_ge (tgt := 115) hx hb dX5_teamsOf_13 (by decide) (fun c_13 => ?_) (fun c_13 => ?_)
      · skip
        have e_13 : i5 = s_n S := q_ge_T (by omega) hi_i5 c_13
        subst e_13
        refine lv_iload_n hx hb dX5_teamsOf_115 rfl (lv_at hl 1 rfl) ?_
        exact q_iret hx hb hr hlk dX5_teamsOf_116 (rfl)
      · skip
        have lt_i5 : i5 < s_n S := q_ge_F (by omega) hi_i5 c_13
        refine lv_iload hx hb dX5_teamsOf_16 (lv_at hl 0 rfl) ?_
        refine lv_iload_n hx hb dX5_teamsOf_18 rfl (lv_at hl 3 rfl) ?_
        refine q_S (As := [.int (nI i5), .int (nI r)]) (rest := []) ⟨hx, hb, hml, hown, hts⟩ (c_X5_h l i5 r ) (va_cwS 2 hts gX5_teamsOf_X5_h rfl rfl rfl (by decide +kernel) ⟨Nat.le_of_ble_eq_true rfl, Nat.le_of_ble_eq_true rfl⟩) q_Blind_t (fun _ _ _ => trivial) rfl hl.1 rfl (Nat.le_of_ble_eq_true rfl) dX5_teamsOf_19 (Nat.zero_le _) (Nat.zero_le _) ?_
        refine lv_istore (lv' := [(5, .int (nI (136 + 15 * (i5 * 8 + r)))), (4, .int (nI i5)), (3, .int (q_or (tem1 S r z) i5)), (0, .ref (d 0)), (1, .int (nI r)), (2, .int z)]) hx hb dX5_teamsOf_22 hl (by decide) rfl (fun ls hl => ?_)
        refine lv_iload_n hx hb dX5_teamsOf_24 rfl (lv_at hl 5 rfl) ?_
        refine lv_iconst (v := 2) hx hb dX5_teamsOf_25 (by decide) ?_
        refine lv_icmp_ne (tgt := 55) hx hb dX5_teamsOf_26 (by decide) (fun c_26 => ?_) (fun c_26 => ?_)
        · skip
          refine lv_aload_n hx hb dX5_teamsOf_55 rfl (lv_at hl 3 rfl) ?_
          refine va_get (D := g.1) (ci := 4) (v := .ref (d 1)) (C := RX5) (T := TX5) (N := 7) hx hb hts hi_X5 hown hK hP 0 rfl rfl 0 (by decide) fl_7 (fun _ h9 => h9) rfl dX5_teamsOf_56 ?_
          refine lv_iload hx hb dX5_teamsOf_59 (lv_at hl 0 rfl) ?_
          refine lv_iload_n hx hb dX5_teamsOf_61 rfl (lv_at hl 5 rfl) ?_
          refine lv_iconst (v := 1) hx hb dX5_teamsOf_62 (by decide) ?_
          refine lv_icmp_ne (tgt := 70) hx hb dX5_teamsOf_63 (by decide) (fun c_63 => ?_) (fun c_63 => ?_)
          · skip
            refine lv_iload_n hx hb dX5_teamsOf_70 rfl (lv_at hl 5 rfl) ?_
            refine lv_iconst (v := 3) hx hb dX5_teamsOf_71 (by decide) ?_
            refine lv_icmp_ne (tgt := 79) hx hb dX5_teamsOf_72 (by decide) (fun c_72 => ?_) (fun c_72 => ?_)
            · skip
              refine lv_iconst (v := 4) hx hb dX5_teamsOf_79 (by decide) ?_
              refine lv_iadd hx hb dX5_teamsOf_80 ?_
              refine q_reI (show (((nI (136 + 15 * (i5 * 8 + r))) + 4) : Int32) = nI (136 + 15 * (i5 * 8 + r) + 4) from nI_add _ _) ?_
              refine q_iald (j := (136 + 15 * (i5 * 8 + r) + 4)) hx hb hK hP 1 0 rfl rfl (by omega) (by decide) dX5_teamsOf_81 ?_
              refine q_reI (show (m_s M (136 + 15 * (i5 * 8 + r) + 4) : Int32) = bI (lokS S i5 r) from cp_lok hc (t := i5) (r := r) (by omega) (by omega)) ?_
              refine lv_iconst (v := 1) hx hb dX5_teamsOf_82 (by decide) ?_
              refine lv_icmp_ne (tgt := 90) hx hb dX5_teamsOf_83 (by decide) (fun c_83 => ?_) (fun c_83 => ?_)
              · skip
                have c_83 : (lokS S i5 r) = false := bI_n1 c_83
                refine lv_iconst (v := 0) hx hb dX5_teamsOf_90 (by decide) ?_
                refine lv_istore (lv' := [(6, .int 0), (5, .int (nI (136 + 15 * (i5 * 8 + r)))), (4, .int (nI i5)), (3, .int (q_or (tem1 S r z) i5)), (0, .ref (d 0)), (1, .int (nI r)), (2, .int z)]) hx hb dX5_teamsOf_91 hl (by decide) rfl (fun ls hl => ?_)
                refine lv_iload_n hx hb dX5_teamsOf_93 rfl (lv_at hl 3 rfl) ?_
                refine lv_iload hx hb dX5_teamsOf_94 (lv_at hl 0 rfl) ?_
                refine lv_if_eq (tgt := 106) hx hb dX5_teamsOf_96 (by decide) (fun c_96 => ?_) (fun c_96 => ?_)
                · skip
                  refine lv_iconst (v := 0) hx hb dX5_teamsOf_106 (by decide) ?_
                  refine lv_ior hx hb dX5_teamsOf_107 ?_
                  refine lv_istore_n (lv' := [(3, .int ((q_or (tem1 S r z) i5) ||| 0)), (6, .int 0), (5, .int (nI (136 + 15 * (i5 * 8 + r)))), (4, .int (nI i5)), (0, .ref (d 0)), (1, .int (nI r)), (2, .int z)]) hx hb dX5_teamsOf_108 rfl hl (by decide) rfl (fun ls hl => ?_)
                  refine lv_iinc (v := nI (i5 + 1)) (lv' := [(4, .int (nI (i5 + 1))), (3, .int ((q_or (tem1 S r z) i5) ||| 0)), (6, .int 0), (5, .int (nI (136 + 15 * (i5 * 8 + r)))), (0, .ref (d 0)), (1, .int (nI r)), (2, .int z)]) hx hb dX5_teamsOf_109 hl (k := 3) rfl (nI_1 _) (by decide) rfl (fun ls hl => ?_)
                  refine lv_goto (tgt := 5) hx hb dX5_teamsOf_112 (by decide) ?_
                  exact ih_i5 (i5 + 1) ((q_or (tem1 S r z) i5) ||| 0) (by simp [q_or, tem1, c_26, c_63, c_72, c_83]) lt_i5 (by omega) ls (lv_sub hl [0, 1, 4, 5, 6] rfl)
                · skip
                  exact absurd c_96 (by decide)
              · skip
                have c_83 : (lokS S i5 r) = true := bI_e1 c_83
                refine lv_iconst (v := 1) hx hb dX5_teamsOf_86 (by decide) ?_
                refine lv_goto (tgt := 91) hx hb dX5_teamsOf_87 (by decide) ?_
                refine lv_istore (lv' := [(6, .int 1), (5, .int (nI (136 + 15 * (i5 * 8 + r)))), (4, .int (nI i5)), (3, .int (q_or (tem1 S r z) i5)), (0, .ref (d 0)), (1, .int (nI r)), (2, .int z)]) hx hb dX5_teamsOf_91 hl (by decide) rfl (fun ls hl => ?_)
                refine lv_iload_n hx hb dX5_teamsOf_93 rfl (lv_at hl 3 rfl) ?_
                refine lv_iload hx hb dX5_teamsOf_94 (lv_at hl 0 rfl) ?_
                refine lv_if_eq (tgt := 106) hx hb dX5_teamsOf_96 (by decide) (fun c_96 => ?_) (fun c_96 => ?_)
                · skip
                  exact absurd c_96 (by decide)
                · skip
                  refine lv_iconst (v := 1) hx hb dX5_teamsOf_99 (by decide) ?_
                  refine lv_iload hx hb dX5_teamsOf_100 (lv_at hl 2 rfl) ?_
                  refine lv_ishl hx hb dX5_teamsOf_102 ?_
                  refine lv_goto (tgt := 107) hx hb dX5_teamsOf_103 (by decide) ?_
                  refine lv_ior hx hb dX5_teamsOf_107 ?_
                  refine lv_istore_n (lv' := [(3, .int ((q_or (tem1 S r z) i5) ||| (1 <<< ((nI i5) &&& 31)))), (6, .int 1), (5, .int (nI (136 + 15 * (i5 * 8 + r)))), (4, .int (nI i5)), (0, .ref (d 0)), (1, .int (nI r)), (2, .int z)]) hx hb dX5_teamsOf_108 rfl hl (by decide) rfl (fun ls hl => ?_)
                  refine lv_iinc (v := nI (i5 + 1)) (lv' := [(4, .int (nI (i5 + 1))), (3, .int ((q_or (tem1 S r z) i5) ||| (1 <<< ((nI i5) &&& 31)))), (6, .int 1), (5, .int (nI (136 + 15 * (i5 * 8 + r)))), (0, .ref (d 0)), (1, .int (nI r)), (2, .int z)]) hx hb dX5_teamsOf_109 hl (k := 3) rfl (nI_1 _) (by decide) rfl (fun ls hl => ?_)
                  refine lv_goto (tgt := 5) hx hb dX5_teamsOf_112 (by decide) ?_
                  exact ih_i5 (i5 + 1) ((q_or (tem1 S r z) i5) ||| (1 <<< ((nI i5) &&& 31))) (by simp [q_or, tem1, c_26, c_63, c_72, c_83]) lt_i5 (by omega) ls (lv_sub hl [0, 1, 4, 5, 6] rfl)
            · skip
              refine lv_iconst (v := 1) hx hb dX5_teamsOf_75 (by decide) ?_
              refine lv_goto (tgt := 80) hx hb dX5_teamsOf_76 (by decide) ?_
              refine lv_iadd hx hb dX5_teamsOf_80 ?_
              refine q_reI (show (((nI (136 + 15 * (i5 * 8 + r))) + 1) : Int32) = nI (136 + 15 * (i5 * 8 + r) + 1) from nI_add _ _) ?_
              refine q_iald (j := (136 + 15 * (i5 * 8 + r) + 1)) hx hb hK hP 1 0 rfl rfl (by omega) (by decide) dX5_teamsOf_81 ?_
              refine q_reI (show (m_s M (136 + 15 * (i5 * 8 + r) + 1) : Int32) = bI (tldS S i5 r) from cp_tld hc (t := i5) (r := r) (by omega) (by omega)) ?_
              refine lv_iconst (v := 1) hx hb dX5_teamsOf_82 (by decide) ?_
              refine lv_icmp_ne (tgt := 90) hx hb dX5_teamsOf_83 (by decide) (fun c_83 => ?_) (fun c_83 => ?_)
              · skip
                have c_83 : (tldS S i5 r) = false := bI_n1 c_83
                refine lv_iconst (v := 0) hx hb dX5_teamsOf_90 (by decide) ?_
                refine lv_istore (lv' := [(6, .int 0), (5, .int (nI (136 + 15 * (i5 * 8 + r)))), (4, .int (nI i5)), (3, .int (q_or (tem1 S r z) i5)), (0, .ref (d 0)), (1, .int (nI r)), (2, .int z)]) hx hb dX5_teamsOf_91 hl (by decide) rfl (fun ls hl => ?_)
                refine lv_iload_n hx hb dX5_teamsOf_93 rfl (lv_at hl 3 rfl) ?_
                refine lv_iload hx hb dX5_teamsOf_94 (lv_at hl 0 rfl) ?_
                refine lv_if_eq (tgt := 106) hx hb dX5_teamsOf_96 (by decide) (fun c_96 => ?_) (fun c_96 => ?_)
                · skip
                  refine lv_iconst (v := 0) hx hb dX5_teamsOf_106 (by decide) ?_
                  refine lv_ior hx hb dX5_teamsOf_107 ?_
                  refine lv_istore_n (lv' := [(3, .int ((q_or (tem1 S r z) i5) ||| 0)), (6, .int 0), (5, .int (nI (136 + 15 * (i5 * 8 + r)))), (4, .int (nI i5)), (0, .ref (d 0)), (1, .int (nI r)), (2, .int z)]) hx hb dX5_teamsOf_108 rfl hl (by decide) rfl (fun ls hl => ?_)
                  refine lv_iinc (v := nI (i5 + 1)) (lv' := [(4, .int (nI (i5 + 1))), (3, .int ((q_or (tem1 S r z) i5) ||| 0)), (6, .int 0), (5, .int (nI (136 + 15 * (i5 * 8 + r)))), (0, .ref (d 0)), (1, .int (nI r)), (2, .int z)]) hx hb dX5_teamsOf_109 hl (k := 3) rfl (nI_1 _) (by decide) rfl (fun ls hl => ?_)
                  refine lv_goto (tgt := 5) hx hb dX5_teamsOf_112 (by decide) ?_
                  exact ih_i5 (i5 + 1) ((q_or (tem1 S r z) i5) ||| 0) (by simp [q_or, tem1, c_26, c_63, c_72, c_83]) lt_i5 (by omega) ls (lv_sub hl [0, 1, 4, 5, 6] rfl)
                · skip
                  exact absurd c_96 (by decide)
              · skip
                have c_83 : (tldS S i5 r) = true := bI_e1 c_83
                refine lv_iconst (v := 1) hx hb dX5_teamsOf_86 (by decide) ?_
                refine lv_goto (tgt := 91) hx hb dX5_teamsOf_87 (by decide) ?_
                refine lv_istore (lv' := [(6, .int 1), (5, .int (nI (136 + 15 * (i5 * 8 + r)))), (4, .int (nI i5)), (3, .int (q_or (tem1 S r z) i5)), (0, .ref (d 0)), (1, .int (nI r)), (2, .int z)]) hx hb dX5_teamsOf_91 hl (by decide) rfl (fun ls hl => ?_)
                refine lv_iload_n hx hb dX5_teamsOf_93 rfl (lv_at hl 3 rfl) ?_
                refine lv_iload hx hb dX5_teamsOf_94 (lv_at hl 0 rfl) ?_
                refine lv_if_eq (tgt := 106) hx hb dX5_teamsOf_96 (by decide) (fun c_96 => ?_) (fun c_96 => ?_)
                · skip
                  exact absurd c_96 (by decide)
                · skip
                  refine lv_iconst (v := 1) hx hb dX5_teamsOf_99 (by decide) ?_
                  refine lv_iload hx hb dX5_teamsOf_100 (lv_at hl 2 rfl) ?_
                  refine lv_ishl hx hb dX5_teamsOf_102 ?_
                  refine lv_goto (tgt := 107) hx hb dX5_teamsOf_103 (by decide) ?_
                  refine lv_ior hx hb dX5_teamsOf_107 ?_
                  refine lv_istore_n (lv' := [(3, .int ((q_or (tem1 S r z) i5) ||| (1 <<< ((nI i5) &&& 31)))), (6, .int 1), (5, .int (nI (136 + 15 * (i5 * 8 + r)))), (4, .int (nI i5)), (0, .ref (d 0)), (1, .int (nI r)), (2, .int z)]) hx hb dX5_teamsOf_108 rfl hl (by decide) rfl (fun ls hl => ?_)
                  refine lv_iinc (v := nI (i5 + 1)) (lv' := [(4, .int (nI (i5 + 1))), (3, .int ((q_or (tem1 S r z) i5) ||| (1 <<< ((nI i5) &&& 31)))), (6, .int 1), (5, .int (nI (136 + 15 * (i5 * 8 + r)))), (0, .ref (d 0)), (1, .int (nI r)), (2, .int z)]) hx hb dX5_teamsOf_109 hl (k := 3) rfl (nI_1 _) (by decide) rfl (fun ls hl => ?_)
                  refine lv_goto (tgt := 5) hx hb dX5_teamsOf_112 (by decide) ?_
                  exact ih_i5 (i5 + 1) ((q_or (tem1 S r z) i5) ||| (1 <<< ((nI i5) &&& 31))) (by simp [q_or, tem1, c_26, c_63, c_72, c_83]) lt_i5 (by omega) ls (lv_sub hl [0, 1, 4, 5, 6] rfl)
          · skip
            refine lv_iconst (v := 0) hx hb dX5_teamsOf_66 (by decide) ?_
            refine lv_goto (tgt := 80) hx hb dX5_teamsOf_67 (by decide) ?_
            refine lv_iadd hx hb dX5_teamsOf_80 ?_
            refine q_reI (show (((nI (136 + 15 * (i5 * 8 + r))) + 0) : Int32) = nI (136 + 15 * (i5 * 8 + r) + 0) from nI_add _ _) ?_
            refine q_iald (j := (136 + 15 * (i5 * 8 + r) + 0)) hx hb hK hP 1 0 rfl rfl (by omega) (by decide) dX5_teamsOf_81 ?_
            refine q_reI (show (m_s M (136 + 15 * (i5 * 8 + r) + 0) : Int32) = bI (hasS S i5 r) from cp_has hc (t := i5) (r := r) (by omega) (by omega)) ?_
            refine lv_iconst (v := 1) hx hb dX5_teamsOf_82 (by decide) ?_
            refine lv_icmp_ne (tgt := 90) hx hb dX5_teamsOf_83 (by decide) (fun c_83 => ?_) (fun c_83 => ?_)
            · skip
              have c_83 : (hasS S i5 r) = false := bI_n1 c_83
              refine lv_iconst (v := 0) hx hb dX5_teamsOf_90 (by decide) ?_
              refine lv_istore (lv' := [(6, .int 0), (5, .int (nI (136 + 15 * (i5 * 8 + r)))), (4, .int (nI i5)), (3, .int (q_or (tem1 S r z) i5)), (0, .ref (d 0)), (1, .int (nI r)), (2, .int z)]) hx hb dX5_teamsOf_91 hl (by decide) rfl (fun ls hl => ?_)
              refine lv_iload_n hx hb dX5_teamsOf_93 rfl (lv_at hl 3 rfl) ?_
              refine lv_iload hx hb dX5_teamsOf_94 (lv_at hl 0 rfl) ?_
              refine lv_if_eq (tgt := 106) hx hb dX5_teamsOf_96 (by decide) (fun c_96 => ?_) (fun c_96 => ?_)
              · skip
                refine lv_iconst (v := 0) hx hb dX5_teamsOf_106 (by decide) ?_
                refine lv_ior hx hb dX5_teamsOf_107 ?_
                refine lv_istore_n (lv' := [(3, .int ((q_or (tem1 S r z) i5) ||| 0)), (6, .int 0), (5, .int (nI (136 + 15 * (i5 * 8 + r)))), (4, .int (nI i5)), (0, .ref (d 0)), (1, .int (nI r)), (2, .int z)]) hx hb dX5_teamsOf_108 rfl hl (by decide) rfl (fun ls hl => ?_)
                refine lv_iinc (v := nI (i5 + 1)) (lv' := [(4, .int (nI (i5 + 1))), (3, .int ((q_or (tem1 S r z) i5) ||| 0)), (6, .int 0), (5, .int (nI (136 + 15 * (i5 * 8 + r)))), (0, .ref (d 0)), (1, .int (nI r)), (2, .int z)]) hx hb dX5_teamsOf_109 hl (k := 3) rfl (nI_1 _) (by decide) rfl (fun ls hl => ?_)
                refine lv_goto (tgt := 5) hx hb dX5_teamsOf_112 (by decide) ?_
                exact ih_i5 (i5 + 1) ((q_or (tem1 S r z) i5) ||| 0) (by simp [q_or, tem1, c_26, c_63, c_83]) lt_i5 (by omega) ls (lv_sub hl [0, 1, 4, 5, 6] rfl)
              · skip
                exact absurd c_96 (by decide)
            · skip
              have c_83 : (hasS S i5 r) = true := bI_e1 c_83
              refine lv_iconst (v := 1) hx hb dX5_teamsOf_86 (by decide) ?_
              refine lv_goto (tgt := 91) hx hb dX5_teamsOf_87 (by decide) ?_
              refine lv_istore (lv' := [(6, .int 1), (5, .int (nI (136 + 15 * (i5 * 8 + r)))), (4, .int (nI i5)), (3, .int (q_or (tem1 S r z) i5)), (0, .ref (d 0)), (1, .int (nI r)), (2, .int z)]) hx hb dX5_teamsOf_91 hl (by decide) rfl (fun ls hl => ?_)
              refine lv_iload_n hx hb dX5_teamsOf_93 rfl (lv_at hl 3 rfl) ?_
              refine lv_iload hx hb dX5_teamsOf_94 (lv_at hl 0 rfl) ?_
              refine lv_if_eq (tgt := 106) hx hb dX5_teamsOf_96 (by decide) (fun c_96 => ?_) (fun c_96 => ?_)
              · skip
                exact absurd c_96 (by decide)
              · skip
                refine lv_iconst (v := 1) hx hb dX5_teamsOf_99 (by decide) ?_
                refine lv_iload hx hb dX5_teamsOf_100 (lv_at hl 2 rfl) ?_
                refine lv_ishl hx hb dX5_teamsOf_102 ?_
                refine lv_goto (tgt := 107) hx hb dX5_teamsOf_103 (by decide) ?_
                refine lv_ior hx hb dX5_teamsOf_107 ?_
                refine lv_istore_n (lv' := [(3, .int ((q_or (tem1 S r z) i5) ||| (1 <<< ((nI i5) &&& 31)))), (6, .int 1), (5, .int (nI (136 + 15 * (i5 * 8 + r)))), (4, .int (nI i5)), (0, .ref (d 0)), (1, .int (nI r)), (2, .int z)]) hx hb dX5_teamsOf_108 rfl hl (by decide) rfl (fun ls hl => ?_)
                refine lv_iinc (v := nI (i5 + 1)) (lv' := [(4, .int (nI (i5 + 1))), (3, .int ((q_or (tem1 S r z) i5) ||| (1 <<< ((nI i5) &&& 31)))), (6, .int 1), (5, .int (nI (136 + 15 * (i5 * 8 + r)))), (0, .ref (d 0)), (1, .int (nI r)), (2, .int z)]) hx hb dX5_teamsOf_109 hl (k := 3) rfl (nI_1 _) (by decide) rfl (fun ls hl => ?_)
                refine lv_goto (tgt := 5) hx hb dX5_teamsOf_112 (by decide) ?_
                exact ih_i5 (i5 + 1) ((q_or (tem1 S r z) i5) ||| (1 <<< ((nI i5) &&& 31))) (by simp [q_or, tem1, c_26, c_63, c_83]) lt_i5 (by omega) ls (lv_sub hl [0, 1, 4, 5, 6] rfl)
        · skip
          refine lv_aload_n hx hb dX5_teamsOf_29 rfl (lv_at hl 3 rfl) ?_
          refine va_get (D := g.1) (ci := 4) (v := .ref (d 1)) (C := RX5) (T := TX5) (N := 7) hx hb hts hi_X5 hown hK hP 0 rfl rfl 0 (by decide) fl_7 (fun _ h9 => h9) rfl dX5_teamsOf_30 ?_
          refine lv_iload hx hb dX5_teamsOf_33 (lv_at hl 1 rfl) ?_
          refine q_S (As := [.int (nI i5)]) (rest := [.ref (d 1)]) ⟨hx, hb, hml, hown, hts⟩ (c_X5_t l i5 ) (va_cwS 1 hts gX5_teamsOf_X5_t rfl rfl rfl (by decide +kernel) ⟨Nat.le_of_ble_eq_true rfl, Nat.le_of_ble_eq_true rfl⟩) q_Blind_t (fun _ _ _ => trivial) rfl hl.1 rfl (Nat.le_of_ble_eq_true rfl) dX5_teamsOf_35 (Nat.zero_le _) (Nat.zero_le _) ?_
          refine lv_iconst (v := 1) hx hb dX5_teamsOf_38 (by decide) ?_
          refine lv_iadd hx hb dX5_teamsOf_39 ?_
          refine q_reI (show (((nI (96 + 4 * i5)) + 1) : Int32) = nI (96 + 4 * i5 + 1) from nI_add _ _) ?_
          refine q_iald (j := (96 + 4 * i5 + 1)) hx hb hK hP 1 0 rfl rfl (by omega) (by decide) dX5_teamsOf_40 ?_
          refine q_reI (show (m_s M (96 + 4 * i5 + 1) : Int32) = jkI (s_jok S i5) from cp_jok hc (t := i5) (by omega)) ?_
          refine lv_iload_n hx hb dX5_teamsOf_41 rfl (lv_at hl 4 rfl) ?_
          refine lv_iconst (v := 1) hx hb dX5_teamsOf_42 (by decide) ?_
          refine lv_iadd hx hb dX5_teamsOf_43 ?_
          refine q_reI (show (((nI r) + 1) : Int32) = nI (r + 1) from nI_add _ _) ?_
          refine lv_icmp_ne (tgt := 51) hx hb dX5_teamsOf_44 (by decide) (fun c_44 => ?_) (fun c_44 => ?_)
          · skip
            have c_44 := jk_f (by omega) c_44
            refine lv_iconst (v := 0) hx hb dX5_teamsOf_51 (by decide) ?_
            refine lv_goto (tgt := 91) hx hb dX5_teamsOf_52 (by decide) ?_
            refine lv_istore (lv' := [(6, .int 0), (5, .int (nI (136 + 15 * (i5 * 8 + r)))), (4, .int (nI i5)), (3, .int (q_or (tem1 S r z) i5)), (0, .ref (d 0)), (1, .int (nI r)), (2, .int z)]) hx hb dX5_teamsOf_91 hl (by decide) rfl (fun ls hl => ?_)
            refine lv_iload_n hx hb dX5_teamsOf_93 rfl (lv_at hl 3 rfl) ?_
            refine lv_iload hx hb dX5_teamsOf_94 (lv_at hl 0 rfl) ?_
            refine lv_if_eq (tgt := 106) hx hb dX5_teamsOf_96 (by decide) (fun c_96 => ?_) (fun c_96 => ?_)
            · skip
              refine lv_iconst (v := 0) hx hb dX5_teamsOf_106 (by decide) ?_
              refine lv_ior hx hb dX5_teamsOf_107 ?_
              refine lv_istore_n (lv' := [(3, .int ((q_or (tem1 S r z) i5) ||| 0)), (6, .int 0), (5, .int (nI (136 + 15 * (i5 * 8 + r)))), (4, .int (nI i5)), (0, .ref (d 0)), (1, .int (nI r)), (2, .int z)]) hx hb dX5_teamsOf_108 rfl hl (by decide) rfl (fun ls hl => ?_)
              refine lv_iinc (v := nI (i5 + 1)) (lv' := [(4, .int (nI (i5 + 1))), (3, .int ((q_or (tem1 S r z) i5) ||| 0)), (6, .int 0), (5, .int (nI (136 + 15 * (i5 * 8 + r)))), (0, .ref (d 0)), (1, .int (nI r)), (2, .int z)]) hx hb dX5_teamsOf_109 hl (k := 3) rfl (nI_1 _) (by decide) rfl (fun ls hl => ?_)
              refine lv_goto (tgt := 5) hx hb dX5_teamsOf_112 (by decide) ?_
              exact ih_i5 (i5 + 1) ((q_or (tem1 S r z) i5) ||| 0) (by simp [q_or, tem1, c_26, c_44]) lt_i5 (by omega) ls (lv_sub hl [0, 1, 4, 5, 6] rfl)
            · skip
              exact absurd c_96 (by decide)
          · skip
            have c_44 := jk_t (ok_jok ho (t := i5) (by omega)) (by omega) c_44
            refine lv_iconst (v := 1) hx hb dX5_teamsOf_47 (by decide) ?_
            refine lv_goto (tgt := 91) hx hb dX5_teamsOf_48 (by decide) ?_
            refine lv_istore (lv' := [(6, .int 1), (5, .int (nI (136 + 15 * (i5 * 8 + r)))), (4, .int (nI i5)), (3, .int (q_or (tem1 S r z) i5)), (0, .ref (d 0)), (1, .int (nI r)), (2, .int z)]) hx hb dX5_teamsOf_91 hl (by decide) rfl (fun ls hl => ?_)
            refine lv_iload_n hx hb dX5_teamsOf_93 rfl (lv_at hl 3 rfl) ?_
            refine lv_iload hx hb dX5_teamsOf_94 (lv_at hl 0 rfl) ?_
            refine lv_if_eq (tgt := 106) hx hb dX5_teamsOf_96 (by decide) (fun c_96 => ?_) (fun c_96 => ?_)
            · skip
              exact absurd c_96 (by decide)
            · skip
              refine lv_iconst (v := 1) hx hb dX5_teamsOf_99 (by decide) ?_
              refine lv_iload hx hb dX5_teamsOf_100 (lv_at hl 2 rfl) ?_
              refine lv_ishl hx hb dX5_teamsOf_102 ?_
              refine lv_goto (tgt := 107) hx hb dX5_teamsOf_103 (by decide) ?_
              refine lv_ior hx hb dX5_teamsOf_107 ?_
              refine lv_istore_n (lv' := [(3, .int ((q_or (tem1 S r z) i5) ||| (1 <<< ((nI i5) &&& 31)))), (6, .int 1), (5, .int (nI (136 + 15 * (i5 * 8 + r)))), (4, .int (nI i5)), (0, .ref (d 0)), (1, .int (nI r)), (2, .int z)]) hx hb dX5_teamsOf_108 rfl hl (by decide) rfl (fun ls hl => ?_)
              refine lv_iinc (v := nI (i5 + 1)) (lv' := [(4, .int (nI (i5 + 1))), (3, .int ((q_or (tem1 S r z) i5) ||| (1 <<< ((nI i5) &&& 31)))), (6, .int 1), (5, .int (nI (136 + 15 * (i5 * 8 + r)))), (0, .ref (d 0)), (1, .int (nI r)), (2, .int z)]) hx hb dX5_teamsOf_109 hl (k := 3) rfl (nI_1 _) (by decide) rfl (fun ls hl => ?_)
              refine lv_goto (tgt := 5) hx hb dX5_teamsOf_112 (by decide) ?_
              exact ih_i5 (i5 + 1) ((q_or (tem1 S r z) i5) ||| (1 <<< ((nI i5) &&& 31))) (by simp [q_or, tem1, c_26, c_44]) lt_i5 (by omega) ls (lv_sub hl [0, 1, 4, 5, 6] rfl)
  exact L_5 (s_n S + 1) 0 0 (rfl) (Nat.zero_le _) (by omega) ls (lv_sub hl [0, 1, 2, 3, 4] rfl)

set_option maxHeartbeats 4000000 in
set_option maxRecDepth 100000 in
theorem c_X5_roundsOf (l : Launch) (g : q_G) (d : Nat → Nat) (M : q_MV) (S : q_St) (K : Nat) (hc : q_cp S (m_s M)) (ho : q_ok K S) (hK5 : K ≤ 512) (t : Nat) (z : Int32) (h1_ : t < 10) : q_PM l yX5_roundsOf wsX5_roundsOf { frames := 1, cells := 0, slots := 0, locals := 21 } [.ref (d 0), .int (nI t), .int z] (q_B g (q_mdW g d M)) (.int (q_or (rds1 S t z) 8)) := by
  refine q_pm (cc := cX5_roundsOf) (maxL := 5) (ret := (some .int)) (by decide) rfl (Nat.le_of_ble_eq_true rfl) ?_
  intro p e s m args below meth c ls hx hb hml hown hts hr hlk hB hl
  obtain ⟨hP, hK, hN⟩ := hB
  have hn10 := ok_n ho
  have fl_7 := hts (.fieldLink RX5 7 "PubQuizzesModel" "s" "[I") (by decide +kernel)
  have hi_X5 : ∀ w ∈ u_ws RX5 TX5 7, w ∈ wsX5_roundsOf := by decide +kernel
  have hl : lv_has ls 5 [(0, .ref (d 0)), (1, .int (nI t)), (2, .int z)] := hl
  refine lv_iconst (v := 0) hx hb dX5_roundsOf_0 (by decide) ?_
  refine lv_istore_n (lv' := [(3, .int 0), (0, .ref (d 0)), (1, .int (nI t)), (2, .int z)]) hx hb dX5_roundsOf_1 rfl hl (by decide) rfl (fun ls hl => ?_)
  refine lv_iconst (v := 0) hx hb dX5_roundsOf_2 (by decide) ?_
  refine lv_istore (lv' := [(4, .int 0), (3, .int 0), (0, .ref (d 0)), (1, .int (nI t)), (2, .int z)]) hx hb dX5_roundsOf_3 hl (by decide) rfl (fun ls hl => ?_)
  have L_5 : ∀ (fu i5 : Nat) (y3_5 : Int32), y3_5 = q_or (rds1 S t z) i5 → i5 ≤ 8 → 8 < i5 + fu → ∀ ls : Array Slot, lv_has ls 5 [(4, .int (nI i5)), (3, .int y3_5), (0, .ref (d 0)), (1, .int (nI t)), (2, .int z)] → W p l e { frames := 1, cells := 0, slots := 0, locals := 21 } s m args below meth c s.heap [] 0 0 (MQ below (k2_QcV (.int (q_or (rds1 S t z) 8))) args s 0 0 (fun _ => False)) (F0 m 5 ls []) := by
    intro fu
    induction fu with
    | zero => intro i5 y3_5 ey3_5 hi_i5 hn_i5; exact absurd hn_i5 (by omega)
    | succ fu ih_i5 =>
      intro i5 y3_5 ey3_5 hi_i5 hn_i5 ls hl
      subst ey3_5
      refine lv_iload hx hb dX5_roundsOf_5 (lv_at hl 0 rfl) ?_
      refine lv_bipush (v := 8) hx hb dX5_roundsOf_7 (by decide) ?_
      refine lv_icmp_ge (tgt := 56) hx hb dX5_roundsOf_9 (by decide) (fun c_9 => ?_) (fun c_9 => ?_)
      · skip
        have e_9 : i5 = 8 := q_ge_T (by omega) hi_i5 c_9
        subst e_9
        refine lv_iload_n hx hb dX5_roundsOf_56 rfl (lv_at hl 1 rfl) ?_
        exact q_iret hx hb hr hlk dX5_roundsOf_57 (rfl)
      · skip
        have lt_i5 : i5 < 8 := q_ge_F (by omega) hi_i5 c_9
        refine lv_iload_n hx hb dX5_roundsOf_12 rfl (lv_at hl 1 rfl) ?_
        refine lv_aload_n hx hb dX5_roundsOf_13 rfl (lv_at hl 2 rfl) ?_
        refine va_get (D := g.1) (ci := 4) (v := .ref (d 1)) (C := RX5) (T := TX5) (N := 7) hx hb hts hi_X5 hown hK hP 0 rfl rfl 0 (by decide) fl_7 (fun _ h9 => h9) rfl dX5_roundsOf_14 ?_
        refine lv_iload_n hx hb dX5_roundsOf_17 rfl (lv_at hl 3 rfl) ?_
        refine lv_iload hx hb dX5_roundsOf_18 (lv_at hl 0 rfl) ?_
        refine q_S (As := [.int (nI t), .int (nI i5)]) (rest := [.ref (d 1), .int (q_or (rds1 S t z) i5)]) ⟨hx, hb, hml, hown, hts⟩ (c_X5_h l t i5 ) (va_cwS 2 hts gX5_roundsOf_X5_h rfl rfl rfl (by decide +kernel) ⟨Nat.le_of_ble_eq_true rfl, Nat.le_of_ble_eq_true rfl⟩) q_Blind_t (fun _ _ _ => trivial) rfl hl.1 rfl (Nat.le_of_ble_eq_true rfl) dX5_roundsOf_20 (Nat.zero_le _) (Nat.zero_le _) ?_
        refine lv_iload_n hx hb dX5_roundsOf_23 rfl (lv_at hl 4 rfl) ?_
        refine lv_bipush (v := 6) hx hb dX5_roundsOf_24 (by decide) ?_
        refine lv_icmp_ne (tgt := 33) hx hb dX5_roundsOf_26 (by decide) (fun c_26 => ?_) (fun c_26 => ?_)
        · skip
          refine lv_iconst (v := 1) hx hb dX5_roundsOf_33 (by decide) ?_
          refine lv_iadd hx hb dX5_roundsOf_34 ?_
          refine q_reI (show (((nI (136 + 15 * (t * 8 + i5))) + 1) : Int32) = nI (136 + 15 * (t * 8 + i5) + 1) from nI_add _ _) ?_
          refine q_iald (j := (136 + 15 * (t * 8 + i5) + 1)) hx hb hK hP 1 0 rfl rfl (by omega) (by decide) dX5_roundsOf_35 ?_
          refine q_reI (show (m_s M (136 + 15 * (t * 8 + i5) + 1) : Int32) = bI (tldS S t i5) from cp_tld hc (t := t) (r := i5) (by omega) (by omega)) ?_
          refine lv_iconst (v := 1) hx hb dX5_roundsOf_36 (by decide) ?_
          refine lv_icmp_ne (tgt := 47) hx hb dX5_roundsOf_37 (by decide) (fun c_37 => ?_) (fun c_37 => ?_)
          · skip
            have c_37 : (tldS S t i5) = false := bI_n1 c_37
            refine lv_iconst (v := 0) hx hb dX5_roundsOf_47 (by decide) ?_
            refine lv_ior hx hb dX5_roundsOf_48 ?_
            refine lv_istore_n (lv' := [(3, .int ((q_or (rds1 S t z) i5) ||| 0)), (4, .int (nI i5)), (0, .ref (d 0)), (1, .int (nI t)), (2, .int z)]) hx hb dX5_roundsOf_49 rfl hl (by decide) rfl (fun ls hl => ?_)
            refine lv_iinc (v := nI (i5 + 1)) (lv' := [(4, .int (nI (i5 + 1))), (3, .int ((q_or (rds1 S t z) i5) ||| 0)), (0, .ref (d 0)), (1, .int (nI t)), (2, .int z)]) hx hb dX5_roundsOf_50 hl (k := 1) rfl (nI_1 _) (by decide) rfl (fun ls hl => ?_)
            refine lv_goto (tgt := 5) hx hb dX5_roundsOf_53 (by decide) ?_
            exact ih_i5 (i5 + 1) ((q_or (rds1 S t z) i5) ||| 0) (by simp [q_or, rds1, c_26, c_37]) lt_i5 (by omega) ls (lv_sub hl [0, 1, 2, 3, 4] rfl)
          · skip
            have c_37 : (tldS S t i5) = true := bI_e1 c_37
            refine lv_iconst (v := 1) hx hb dX5_roundsOf_40 (by decide) ?_
            refine lv_iload hx hb dX5_roundsOf_41 (lv_at hl 0 rfl) ?_
            refine lv_ishl hx hb dX5_roundsOf_43 ?_
            refine lv_goto (tgt := 48) hx hb dX5_roundsOf_44 (by decide) ?_
            refine lv_ior hx hb dX5_roundsOf_48 ?_
            refine lv_istore_n (lv' := [(3, .int ((q_or (rds1 S t z) i5) ||| (1 <<< ((nI i5) &&& 31)))), (4, .int (nI i5)), (0, .ref (d 0)), (1, .int (nI t)), (2, .int z)]) hx hb dX5_roundsOf_49 rfl hl (by decide) rfl (fun ls hl => ?_)
            refine lv_iinc (v := nI (i5 + 1)) (lv' := [(4, .int (nI (i5 + 1))), (3, .int ((q_or (rds1 S t z) i5) ||| (1 <<< ((nI i5) &&& 31)))), (0, .ref (d 0)), (1, .int (nI t)), (2, .int z)]) hx hb dX5_roundsOf_50 hl (k := 1) rfl (nI_1 _) (by decide) rfl (fun ls hl => ?_)
            refine lv_goto (tgt := 5) hx hb dX5_roundsOf_53 (by decide) ?_
            exact ih_i5 (i5 + 1) ((q_or (rds1 S t z) i5) ||| (1 <<< ((nI i5) &&& 31))) (by simp [q_or, rds1, c_26, c_37]) lt_i5 (by omega) ls (lv_sub hl [0, 1, 2, 3, 4] rfl)
        · skip
          refine lv_iconst (v := 0) hx hb dX5_roundsOf_29 (by decide) ?_
          refine lv_goto (tgt := 34) hx hb dX5_roundsOf_30 (by decide) ?_
          refine lv_iadd hx hb dX5_roundsOf_34 ?_
          refine q_reI (show (((nI (136 + 15 * (t * 8 + i5))) + 0) : Int32) = nI (136 + 15 * (t * 8 + i5) + 0) from nI_add _ _) ?_
          refine q_iald (j := (136 + 15 * (t * 8 + i5) + 0)) hx hb hK hP 1 0 rfl rfl (by omega) (by decide) dX5_roundsOf_35 ?_
          refine q_reI (show (m_s M (136 + 15 * (t * 8 + i5) + 0) : Int32) = bI (hasS S t i5) from cp_has hc (t := t) (r := i5) (by omega) (by omega)) ?_
          refine lv_iconst (v := 1) hx hb dX5_roundsOf_36 (by decide) ?_
          refine lv_icmp_ne (tgt := 47) hx hb dX5_roundsOf_37 (by decide) (fun c_37 => ?_) (fun c_37 => ?_)
          · skip
            have c_37 : (hasS S t i5) = false := bI_n1 c_37
            refine lv_iconst (v := 0) hx hb dX5_roundsOf_47 (by decide) ?_
            refine lv_ior hx hb dX5_roundsOf_48 ?_
            refine lv_istore_n (lv' := [(3, .int ((q_or (rds1 S t z) i5) ||| 0)), (4, .int (nI i5)), (0, .ref (d 0)), (1, .int (nI t)), (2, .int z)]) hx hb dX5_roundsOf_49 rfl hl (by decide) rfl (fun ls hl => ?_)
            refine lv_iinc (v := nI (i5 + 1)) (lv' := [(4, .int (nI (i5 + 1))), (3, .int ((q_or (rds1 S t z) i5) ||| 0)), (0, .ref (d 0)), (1, .int (nI t)), (2, .int z)]) hx hb dX5_roundsOf_50 hl (k := 1) rfl (nI_1 _) (by decide) rfl (fun ls hl => ?_)
            refine lv_goto (tgt := 5) hx hb dX5_roundsOf_53 (by decide) ?_
            exact ih_i5 (i5 + 1) ((q_or (rds1 S t z) i5) ||| 0) (by simp [q_or, rds1, c_26, c_37]) lt_i5 (by omega) ls (lv_sub hl [0, 1, 2, 3, 4] rfl)
          · skip
            have c_37 : (hasS S t i5) = true := bI_e1 c_37
            refine lv_iconst (v := 1) hx hb dX5_roundsOf_40 (by decide) ?_
            refine lv_iload hx hb dX5_roundsOf_41 (lv_at hl 0 rfl) ?_
            refine lv_ishl hx hb dX5_roundsOf_43 ?_
            refine lv_goto (tgt := 48) hx hb dX5_roundsOf_44 (by decide) ?_
            refine lv_ior hx hb dX5_roundsOf_48 ?_
            refine lv_istore_n (lv' := [(3, .int ((q_or (rds1 S t z) i5) ||| (1 <<< ((nI i5) &&& 31)))), (4, .int (nI i5)), (0, .ref (d 0)), (1, .int (nI t)), (2, .int z)]) hx hb dX5_roundsOf_49 rfl hl (by decide) rfl (fun ls hl => ?_)
            refine lv_iinc (v := nI (i5 + 1)) (lv' := [(4, .int (nI (i5 + 1))), (3, .int ((q_or (rds1 S t z) i5) ||| (1 <<< ((nI i5) &&& 31)))), (0, .ref (d 0)), (1, .int (nI t)), (2, .int z)]) hx hb dX5_roundsOf_50 hl (k := 1) rfl (nI_1 _) (by decide) rfl (fun ls hl => ?_)
            refine lv_goto (tgt := 5) hx hb dX5_roundsOf_53 (by decide) ?_
            exact ih_i5 (i5 + 1) ((q_or (rds1 S t z) i5) ||| (1 <<< ((nI i5) &&& 31))) (by simp [q_or, rds1, c_26, c_37]) lt_i5 (by omega) ls (lv_sub hl [0, 1, 2, 3, 4] rfl)
  exact L_5 (8 + 1) 0 0 (rfl) (Nat.zero_le _) (by omega) ls (lv_sub hl [0, 1, 2, 3, 4] rfl)

set_option maxHeartbeats 4000000 in
set_option maxRecDepth 100000 in
theorem c_X5_greatest (l : Launch) (g : q_G) (d : Nat → Nat) (M : q_MV) (S : q_St) (K : Nat) (hc : q_cp S (m_s M)) (ho : q_ok K S) (hK5 : K ≤ 512) (r : Nat) (h1_ : r < 8) : q_PM l yX5_greatest wsX5_greatest { frames := 3, cells := 0, slots := 0, locals := 66 } [.ref (d 0), .int (nI r)] (q_B g (q_mdW g d M)) (.int (grxS S r (s_n S))) := by
  refine q_pm (cc := cX5_greatest) (maxL := 4) (ret := (some .int)) (by decide) rfl (Nat.le_of_ble_eq_true rfl) ?_
  intro p e s m args below meth c ls hx hb hml hown hts hr hlk hB hl
  obtain ⟨hP, hK, hN⟩ := hB
  have hn10 := ok_n ho
  have fl_7 := hts (.fieldLink RX5 7 "PubQuizzesModel" "s" "[I") (by decide +kernel)
  have hi_X5 : ∀ w ∈ u_ws RX5 TX5 7, w ∈ wsX5_greatest := by decide +kernel
  have hl : lv_has ls 4 [(0, .ref (d 0)), (1, .int (nI r))] := hl
  refine lv_bipush (v := (-6)) hx hb dX5_greatest_0 (by decide) ?_
  refine lv_istore_n (lv' := [(2, .int (-6)), (0, .ref (d 0)), (1, .int (nI r))]) hx hb dX5_greatest_2 rfl hl (by decide) rfl (fun ls hl => ?_)
  refine lv_iconst (v := 0) hx hb dX5_greatest_3 (by decide) ?_
  refine lv_istore_n (lv' := [(3, .int 0), (2, .int (-6)), (0, .ref (d 0)), (1, .int (nI r))]) hx hb dX5_greatest_4 rfl hl (by decide) rfl (fun ls hl => ?_)
  have L_5 : ∀ (fu i5 : Nat) (y2_5 : Int32), y2_5 = grxS S r i5 → i5 ≤ s_n S → s_n S < i5 + fu → ∀ ls : Array Slot, lv_has ls 4 [(3, .int (nI i5)), (2, .int y2_5), (0, .ref (d 0)), (1, .int (nI r))] → W p l e { frames := 3, cells := 0, slots := 0, locals := 66 } s m args below meth c s.heap [] 0 0 (MQ below (k2_QcV (.int (grxS S r (s_n S)))) args s 0 0 (fun _ => False)) (F0 m 5 ls []) := by
    intro fu
    induction fu with
    | zero => intro i5 y2_5 ey2_5 hi_i5 hn_i5; exact absurd hn_i5 (by omega)
    | succ fu ih_i5 =>
      intro i5 y2_5 ey2_5 hi_i5 hn_i5 ls hl
      subst ey2_5
      refine lv_iload_n hx hb dX5_greatest_5 rfl (lv_at hl 0 rfl) ?_
      refine lv_aload_n hx hb dX5_greatest_6 rfl (lv_at hl 2 rfl) ?_
      refine va_get (D := g.1) (ci := 4) (v := .ref (d 1)) (C := RX5) (T := TX5) (N := 7) hx hb hts hi_X5 hown hK hP 0 rfl rfl 0 (by decide) fl_7 (fun _ h9 => h9) rfl dX5_greatest_7 ?_
      refine lv_iconst (v := 4) hx hb dX5_greatest_10 (by decide) ?_
      refine q_iald (j := 4) hx hb hK hP 1 0 rfl rfl (by omega) (by decide) dX5_greatest_11 ?_
      refine q_reI (show (m_s M 4 : Int32) = nI (s_n S) from cp_n hc) ?_
      refine lv_icmp_ge (tgt := 52) hx hb dX5_greatest_12 (by decide) (fun c_12 => ?_) (fun c_12 => ?_)
      · skip
        have e_12 : i5 = s_n S := q_ge_T (by omega) hi_i5 c_12
        subst e_12
        refine lv_iload_n hx hb dX5_greatest_52 rfl (lv_at hl 1 rfl) ?_
        exact q_iret hx hb hr hlk dX5_greatest_53 (rfl)
      · skip
        have lt_i5 : i5 < s_n S := q_ge_F (by omega) hi_i5 c_12
        refine lv_iload_n hx hb dX5_greatest_15 rfl (lv_at hl 0 rfl) ?_
        refine lv_if_eq (tgt := 32) hx hb dX5_greatest_16 (by decide) (fun c_16 => ?_) (fun c_16 => ?_)
        · skip
          have c_16 : i5 = 0 := (nI_eq (by omega) (by decide)).mp (show nI i5 = nI 0 from c_16)
          refine lv_aload_n hx hb dX5_greatest_32 rfl (lv_at hl 2 rfl) ?_
          refine lv_iload_n hx hb dX5_greatest_33 rfl (lv_at hl 0 rfl) ?_
          refine lv_iload_n hx hb dX5_greatest_34 rfl (lv_at hl 3 rfl) ?_
          refine q_V (As := [.int (nI i5), .int (nI r)]) (rest := []) ⟨hx, hb, hml, hown, hts⟩ (c_X5_points l g d M S K hc ho hK5 i5 r (by omega) (by omega)) (cwV 2 hts gX5_greatest_X5_points rfl rfl rfl (by decide +kernel) ⟨Nat.le_of_ble_eq_true rfl, Nat.le_of_ble_eq_true rfl⟩) q_B_blind (va_recv hK hP (ci := 4) (q0 := 0) rfl rfl) (q_B_of hP hK hN) rfl hl.1 rfl (Nat.le_of_ble_eq_true rfl) dX5_greatest_35 (Nat.zero_le _) (Nat.zero_le _) ?_
          refine lv_bipush (v := 100) hx hb dX5_greatest_38 (by decide) ?_
          refine lv_iadd hx hb dX5_greatest_40 ?_
          refine lv_goto (tgt := 45) hx hb dX5_greatest_41 (by decide) ?_
          refine lv_istore_n (lv' := [(2, .int ((ptsS S i5 r) + 100)), (3, .int (nI i5)), (0, .ref (d 0)), (1, .int (nI r))]) hx hb dX5_greatest_45 rfl hl (by decide) rfl (fun ls hl => ?_)
          refine lv_iinc (v := nI (i5 + 1)) (lv' := [(3, .int (nI (i5 + 1))), (2, .int ((ptsS S i5 r) + 100)), (0, .ref (d 0)), (1, .int (nI r))]) hx hb dX5_greatest_46 hl (k := 1) rfl (nI_1 _) (by decide) rfl (fun ls hl => ?_)
          refine lv_goto (tgt := 5) hx hb dX5_greatest_49 (by decide) ?_
          exact ih_i5 (i5 + 1) ((ptsS S i5 r) + 100) (by first | exact grx_a c_16 | exact grx_b ho h1_ (by omega) c_16 c_29 | exact grx_c ho h1_ (by omega) c_16 c_29) lt_i5 (by omega) ls (lv_sub hl [0, 1, 2, 3] rfl)
        · skip
          have c_16 : ¬ i5 = 0 := fun q => c_16 (by rw [q]; rfl)
          refine lv_aload_n hx hb dX5_greatest_19 rfl (lv_at hl 2 rfl) ?_
          refine lv_iload_n hx hb dX5_greatest_20 rfl (lv_at hl 0 rfl) ?_
          refine lv_iload_n hx hb dX5_greatest_21 rfl (lv_at hl 3 rfl) ?_
          refine q_V (As := [.int (nI i5), .int (nI r)]) (rest := []) ⟨hx, hb, hml, hown, hts⟩ (c_X5_points l g d M S K hc ho hK5 i5 r (by omega) (by omega)) (cwV 2 hts gX5_greatest_X5_points rfl rfl rfl (by decide +kernel) ⟨Nat.le_of_ble_eq_true rfl, Nat.le_of_ble_eq_true rfl⟩) q_B_blind (va_recv hK hP (ci := 4) (q0 := 0) rfl rfl) (q_B_of hP hK hN) rfl hl.1 rfl (Nat.le_of_ble_eq_true rfl) dX5_greatest_22 (Nat.zero_le _) (Nat.zero_le _) ?_
          refine lv_bipush (v := 100) hx hb dX5_greatest_25 (by decide) ?_
          refine lv_iadd hx hb dX5_greatest_27 ?_
          refine lv_iload_n hx hb dX5_greatest_28 rfl (lv_at hl 1 rfl) ?_
          refine lv_icmp_le (tgt := 44) hx hb dX5_greatest_29 (by decide) (fun c_29 => ?_) (fun c_29 => ?_)
          · skip
            refine lv_iload_n hx hb dX5_greatest_44 rfl (lv_at hl 1 rfl) ?_
            refine lv_istore_n (lv' := [(2, .int (grxS S r i5)), (3, .int (nI i5)), (0, .ref (d 0)), (1, .int (nI r))]) hx hb dX5_greatest_45 rfl hl (by decide) rfl (fun ls hl => ?_)
            refine lv_iinc (v := nI (i5 + 1)) (lv' := [(3, .int (nI (i5 + 1))), (2, .int (grxS S r i5)), (0, .ref (d 0)), (1, .int (nI r))]) hx hb dX5_greatest_46 hl (k := 1) rfl (nI_1 _) (by decide) rfl (fun ls hl => ?_)
            refine lv_goto (tgt := 5) hx hb dX5_greatest_49 (by decide) ?_
            exact ih_i5 (i5 + 1) (grxS S r i5) (by first | exact grx_a c_16 | exact grx_b ho h1_ (by omega) c_16 c_29 | exact grx_c ho h1_ (by omega) c_16 c_29) lt_i5 (by omega) ls (lv_sub hl [0, 1, 2, 3] rfl)
          · skip
            refine lv_aload_n hx hb dX5_greatest_32 rfl (lv_at hl 2 rfl) ?_
            refine lv_iload_n hx hb dX5_greatest_33 rfl (lv_at hl 0 rfl) ?_
            refine lv_iload_n hx hb dX5_greatest_34 rfl (lv_at hl 3 rfl) ?_
            refine q_V (As := [.int (nI i5), .int (nI r)]) (rest := []) ⟨hx, hb, hml, hown, hts⟩ (c_X5_points l g d M S K hc ho hK5 i5 r (by omega) (by omega)) (cwV 2 hts gX5_greatest_X5_points rfl rfl rfl (by decide +kernel) ⟨Nat.le_of_ble_eq_true rfl, Nat.le_of_ble_eq_true rfl⟩) q_B_blind (va_recv hK hP (ci := 4) (q0 := 0) rfl rfl) (q_B_of hP hK hN) rfl hl.1 rfl (Nat.le_of_ble_eq_true rfl) dX5_greatest_35 (Nat.zero_le _) (Nat.zero_le _) ?_
            refine lv_bipush (v := 100) hx hb dX5_greatest_38 (by decide) ?_
            refine lv_iadd hx hb dX5_greatest_40 ?_
            refine lv_goto (tgt := 45) hx hb dX5_greatest_41 (by decide) ?_
            refine lv_istore_n (lv' := [(2, .int ((ptsS S i5 r) + 100)), (3, .int (nI i5)), (0, .ref (d 0)), (1, .int (nI r))]) hx hb dX5_greatest_45 rfl hl (by decide) rfl (fun ls hl => ?_)
            refine lv_iinc (v := nI (i5 + 1)) (lv' := [(3, .int (nI (i5 + 1))), (2, .int ((ptsS S i5 r) + 100)), (0, .ref (d 0)), (1, .int (nI r))]) hx hb dX5_greatest_46 hl (k := 1) rfl (nI_1 _) (by decide) rfl (fun ls hl => ?_)
            refine lv_goto (tgt := 5) hx hb dX5_greatest_49 (by decide) ?_
            exact ih_i5 (i5 + 1) ((ptsS S i5 r) + 100) (by first | exact grx_a c_16 | exact grx_b ho h1_ (by omega) c_16 c_29 | exact grx_c ho h1_ (by omega) c_16 c_29) lt_i5 (by omega) ls (lv_sub hl [0, 1, 2, 3] rfl)
  exact L_5 (s_n S + 1) 0 (-6) (rfl) (Nat.zero_le _) (by omega) ls (lv_sub hl [0, 1, 2, 3] rfl)

set_option maxHeartbeats 4000000 in
set_option maxRecDepth 100000 in
theorem c_X5_isSheet (l : Launch) (g : q_G) (d : Nat → Nat) (M : q_MV) (S : q_St) (K : Nat) (hc : q_cp S (m_s M)) (ho : q_ok K S) (hK5 : K ≤ 512) (x : Int32) (y : Int32) : q_PM l yX5_isSheet wsX5_isSheet { frames := 2, cells := 0, slots := 0, locals := 43 } [.ref (d 0), .int x, .int y] (q_B g (q_mdW g d M)) (.int (bI (shtS S x y))) := by
  refine q_pm (cc := cX5_isSheet) (maxL := 3) (ret := (some .boolean)) (by decide) rfl (Nat.le_of_ble_eq_true rfl) ?_
  intro p e s m args below meth c ls hx hb hml hown hts hr hlk hB hl
  obtain ⟨hP, hK, hN⟩ := hB
  have hn10 := ok_n ho
  have fl_7 := hts (.fieldLink RX5 7 "PubQuizzesModel" "s" "[I") (by decide +kernel)
  have hi_X5 : ∀ w ∈ u_ws RX5 TX5 7, w ∈ wsX5_isSheet := by decide +kernel
  have hl : lv_has ls 3 [(0, .ref (d 0)), (1, .int x), (2, .int y)] := hl
  refine lv_aload_n hx hb dX5_isSheet_0 rfl (lv_at hl 0 rfl) ?_
  refine lv_iload_n hx hb dX5_isSheet_1 rfl (lv_at hl 1 rfl) ?_
  refine q_V (As := [.int x]) (rest := []) ⟨hx, hb, hml, hown, hts⟩ (c_X5_isTeam l g d M S K hc ho hK5 x ) (cwV 1 hts gX5_isSheet_X5_isTeam rfl rfl rfl (by decide +kernel) ⟨Nat.le_of_ble_eq_true rfl, Nat.le_of_ble_eq_true rfl⟩) q_B_blind (va_recv hK hP (ci := 4) (q0 := 0) rfl rfl) (q_B_of hP hK hN) rfl hl.1 rfl (Nat.le_of_ble_eq_true rfl) dX5_isSheet_2 (Nat.zero_le _) (Nat.zero_le _) ?_
  refine lv_if_eq (tgt := 35) hx hb dX5_isSheet_5 (by decide) (fun c_5 => ?_) (fun c_5 => ?_)
  · skip
    have c_5 : (isTm S x) = false := bI_eq c_5
    refine lv_iconst (v := 0) hx hb dX5_isSheet_35 (by decide) ?_
    exact q_zret hx hb hr hlk dX5_isSheet_36 (by simp [shtS, bI, c_5])
  · skip
    have c_5 : (isTm S x) = true := bI_ne c_5
    obtain ⟨t1, ht1, ht1x, rfl⟩ := isTm_of hn10 c_5
    have ct1 : tN (nI t1) = t1 := tN_n (by omega)
    refine lv_iload_n hx hb dX5_isSheet_8 rfl (lv_at hl 2 rfl) ?_
    refine q_S (As := [.int y]) (rest := []) ⟨hx, hb, hml, hown, hts⟩ (c_X5_isRound l y ) (va_cwS 1 hts gX5_isSheet_X5_isRound rfl rfl rfl (by decide +kernel) ⟨Nat.le_of_ble_eq_true rfl, Nat.le_of_ble_eq_true rfl⟩) q_Blind_t (fun _ _ _ => trivial) rfl hl.1 rfl (Nat.le_of_ble_eq_true rfl) dX5_isSheet_9 (Nat.zero_le _) (Nat.zero_le _) ?_
    refine lv_if_eq (tgt := 35) hx hb dX5_isSheet_12 (by decide) (fun c_12 => ?_) (fun c_12 => ?_)
    · skip
      have c_12 : (isRd y) = false := bI_eq c_12
      refine lv_iconst (v := 0) hx hb dX5_isSheet_35 (by decide) ?_
      exact q_zret hx hb hr hlk dX5_isSheet_36 (by simp [shtS, bI, ct1, c_5, c_12])
    · skip
      have c_12 : (isRd y) = true := bI_ne c_12
      obtain ⟨r1, hr1, rfl⟩ := isRd_of c_12
      have cr1 : tN (nI r1) = r1 := tN_n (by omega)
      refine lv_aload_n hx hb dX5_isSheet_15 rfl (lv_at hl 0 rfl) ?_
      refine va_get (D := g.1) (ci := 4) (v := .ref (d 1)) (C := RX5) (T := TX5) (N := 7) hx hb hts hi_X5 hown hK hP 0 rfl rfl 0 (by decide) fl_7 (fun _ h9 => h9) rfl dX5_isSheet_16 ?_
      refine lv_iload_n hx hb dX5_isSheet_19 rfl (lv_at hl 1 rfl) ?_
      refine lv_iload_n hx hb dX5_isSheet_20 rfl (lv_at hl 2 rfl) ?_
      refine q_S (As := [.int (nI t1), .int (nI r1)]) (rest := [.ref (d 1)]) ⟨hx, hb, hml, hown, hts⟩ (c_X5_h l t1 r1 ) (va_cwS 2 hts gX5_isSheet_X5_h rfl rfl rfl (by decide +kernel) ⟨Nat.le_of_ble_eq_true rfl, Nat.le_of_ble_eq_true rfl⟩) q_Blind_t (fun _ _ _ => trivial) rfl hl.1 rfl (Nat.le_of_ble_eq_true rfl) dX5_isSheet_21 (Nat.zero_le _) (Nat.zero_le _) ?_
      refine lv_iconst (v := 0) hx hb dX5_isSheet_24 (by decide) ?_
      refine lv_iadd hx hb dX5_isSheet_25 ?_
      refine q_reI (show (((nI (136 + 15 * (t1 * 8 + r1))) + 0) : Int32) = nI (136 + 15 * (t1 * 8 + r1) + 0) from nI_add _ _) ?_
      refine q_iald (j := (136 + 15 * (t1 * 8 + r1) + 0)) hx hb hK hP 1 0 rfl rfl (by omega) (by decide) dX5_isSheet_26 ?_
      refine q_reI (show (m_s M (136 + 15 * (t1 * 8 + r1) + 0) : Int32) = bI (hasS S t1 r1) from cp_has hc (t := t1) (r := r1) (by omega) (by omega)) ?_
      refine lv_iconst (v := 1) hx hb dX5_isSheet_27 (by decide) ?_
      refine lv_icmp_ne (tgt := 35) hx hb dX5_isSheet_28 (by decide) (fun c_28 => ?_) (fun c_28 => ?_)
      · skip
        have c_28 : (hasS S t1 r1) = false := bI_n1 c_28
        refine lv_iconst (v := 0) hx hb dX5_isSheet_35 (by decide) ?_
        exact q_zret hx hb hr hlk dX5_isSheet_36 (by simp [shtS, bI, ct1, c_5, cr1, c_12, c_28])
      · skip
        have c_28 : (hasS S t1 r1) = true := bI_e1 c_28
        refine lv_iconst (v := 1) hx hb dX5_isSheet_31 (by decide) ?_
        refine lv_goto (tgt := 36) hx hb dX5_isSheet_32 (by decide) ?_
        exact q_zret hx hb hr hlk dX5_isSheet_36 (by simp [shtS, bI, ct1, c_5, cr1, c_12, c_28])

set_option maxHeartbeats 4000000 in
set_option maxRecDepth 100000 in
theorem c_X5_answered (l : Launch) (g : q_G) (d : Nat → Nat) (M : q_MV) (S : q_St) (K : Nat) (hc : q_cp S (m_s M)) (ho : q_ok K S) (hK5 : K ≤ 512) (t : Nat) (r : Nat) (h1_ : t < 10) (h2_ : r < 8) (h3_ : hasS S t r = true) : q_PM l yX5_answered wsX5_answered { frames := 0, cells := 0, slots := 0, locals := 0 } [.ref (d 0), .int (nI (136 + 15 * (t * 8 + r)))] (q_B g (q_mdW g d M)) (.int (nI (ansN S t r))) := by
  refine q_pm (cc := cX5_answered) (maxL := 4) (ret := (some .int)) (by decide) rfl (Nat.le_of_ble_eq_true rfl) ?_
  intro p e s m args below meth c ls hx hb hml hown hts hr hlk hB hl
  obtain ⟨hP, hK, hN⟩ := hB
  have hn10 := ok_n ho
  have fl_7 := hts (.fieldLink RX5 7 "PubQuizzesModel" "s" "[I") (by decide +kernel)
  have hi_X5 : ∀ w ∈ u_ws RX5 TX5 7, w ∈ wsX5_answered := by decide +kernel
  have hl : lv_has ls 4 [(0, .ref (d 0)), (1, .int (nI (136 + 15 * (t * 8 + r))))] := hl
  refine lv_iconst (v := 0) hx hb dX5_answered_0 (by decide) ?_
  refine lv_istore_n (lv' := [(2, .int 0), (0, .ref (d 0)), (1, .int (nI (136 + 15 * (t * 8 + r))))]) hx hb dX5_answered_1 rfl hl (by decide) rfl (fun ls hl => ?_)
  refine lv_iconst (v := 0) hx hb dX5_answered_2 (by decide) ?_
  refine lv_istore_n (lv' := [(3, .int 0), (2, .int 0), (0, .ref (d 0)), (1, .int (nI (136 + 15 * (t * 8 + r))))]) hx hb dX5_answered_3 rfl hl (by decide) rfl (fun ls hl => ?_)
  have L_4 : ∀ (fu i4 : Nat) (y2_4 : Int32), y2_4 = nI (q_cnt (ans1 (s_she S (t * 8 + r))) i4) → i4 ≤ 10 → 10 < i4 + fu → ∀ ls : Array Slot, lv_has ls 4 [(3, .int (nI i4)), (2, .int y2_4), (0, .ref (d 0)), (1, .int (nI (136 + 15 * (t * 8 + r))))] → W p l e { frames := 0, cells := 0, slots := 0, locals := 0 } s m args below meth c s.heap [] 0 0 (MQ below (k2_QcV (.int (nI (ansN S t r)))) args s 0 0 (fun _ => False)) (F0 m 4 ls []) := by
    intro fu
    induction fu with
    | zero => intro i4 y2_4 ey2_4 hi_i4 hn_i4; exact absurd hn_i4 (by omega)
    | succ fu ih_i4 =>
      intro i4 y2_4 ey2_4 hi_i4 hn_i4 ls hl
      subst ey2_4
      refine lv_iload_n hx hb dX5_answered_4 rfl (lv_at hl 0 rfl) ?_
      refine lv_bipush (v := 10) hx hb dX5_answered_5 (by decide) ?_
      refine lv_icmp_ge (tgt := 37) hx hb dX5_answered_7 (by decide) (fun c_7 => ?_) (fun c_7 => ?_)
      · skip
        have e_7 : i4 = 10 := q_ge_T (by omega) hi_i4 c_7
        subst e_7
        refine lv_iload_n hx hb dX5_answered_37 rfl (lv_at hl 1 rfl) ?_
        exact q_iret hx hb hr hlk dX5_answered_38 (rfl)
      · skip
        have lt_i4 : i4 < 10 := q_ge_F (by omega) hi_i4 c_7
        refine lv_iload_n hx hb dX5_answered_10 rfl (lv_at hl 1 rfl) ?_
        refine lv_aload_n hx hb dX5_answered_11 rfl (lv_at hl 2 rfl) ?_
        refine va_get (D := g.1) (ci := 4) (v := .ref (d 1)) (C := RX5) (T := TX5) (N := 7) hx hb hts hi_X5 hown hK hP 0 rfl rfl 0 (by decide) fl_7 (fun _ h9 => h9) rfl dX5_answered_12 ?_
        refine lv_iload_n hx hb dX5_answered_15 rfl (lv_at hl 3 rfl) ?_
        refine lv_iconst (v := 5) hx hb dX5_answered_16 (by decide) ?_
        refine lv_iadd hx hb dX5_answered_17 ?_
        refine q_reI (show (((nI (136 + 15 * (t * 8 + r))) + 5) : Int32) = nI (136 + 15 * (t * 8 + r) + 5) from nI_add _ _) ?_
        refine lv_iload_n hx hb dX5_answered_18 rfl (lv_at hl 0 rfl) ?_
        refine lv_iadd hx hb dX5_answered_19 ?_
        refine q_reI (show (((nI (136 + 15 * (t * 8 + r) + 5)) + (nI i4)) : Int32) = nI (136 + 15 * (t * 8 + r) + 5 + i4) from nI_add _ _) ?_
        refine q_iald (j := (136 + 15 * (t * 8 + r) + 5 + i4)) hx hb hK hP 1 0 rfl rfl (by omega) (by decide) dX5_answered_20 ?_
        refine q_reI (show (m_s M (136 + 15 * (t * 8 + r) + 5 + i4) : Int32) = anI (sgn (s_she S (t * 8 + r)) i4) from cp_ans hc (k := i4) (t := t) (r := r) (by omega) (by omega) (by assumption) (by omega)) ?_
        refine lv_if_ge (tgt := 28) hx hb dX5_answered_21 (by decide) (fun c_21 => ?_) (fun c_21 => ?_)
        · skip
          have e15 := (an_ge (ok_she ho (t := t) (r := r) (k := i4) (by omega) (by omega) h3_ (by omega)) c_21).1
          refine lv_iconst (v := 1) hx hb dX5_answered_28 (by decide) ?_
          refine lv_iadd hx hb dX5_answered_29 ?_
          refine q_reI (show (((nI (q_cnt (ans1 (s_she S (t * 8 + r))) i4)) + 1) : Int32) = nI (q_cnt (ans1 (s_she S (t * 8 + r))) i4 + 1) from nI_add _ _) ?_
          refine lv_istore_n (lv' := [(2, .int (nI (q_cnt (ans1 (s_she S (t * 8 + r))) i4 + 1))), (3, .int (nI i4)), (0, .ref (d 0)), (1, .int (nI (136 + 15 * (t * 8 + r))))]) hx hb dX5_answered_30 rfl hl (by decide) rfl (fun ls hl => ?_)
          refine lv_iinc (v := nI (i4 + 1)) (lv' := [(3, .int (nI (i4 + 1))), (2, .int (nI (q_cnt (ans1 (s_she S (t * 8 + r))) i4 + 1))), (0, .ref (d 0)), (1, .int (nI (136 + 15 * (t * 8 + r))))]) hx hb dX5_answered_31 hl (k := 1) rfl (nI_1 _) (by decide) rfl (fun ls hl => ?_)
          refine lv_goto (tgt := 4) hx hb dX5_answered_34 (by decide) ?_
          exact ih_i4 (i4 + 1) (nI (q_cnt (ans1 (s_she S (t * 8 + r))) i4 + 1)) (by simp [q_cnt, ans1, e15]) lt_i4 (by omega) ls (lv_sub hl [0, 1, 2, 3] rfl)
        · skip
          have e15 := an_lt (ok_she ho (t := t) (r := r) (k := i4) (by omega) (by omega) h3_ (by omega)) c_21
          refine lv_iconst (v := 0) hx hb dX5_answered_24 (by decide) ?_
          refine lv_goto (tgt := 29) hx hb dX5_answered_25 (by decide) ?_
          refine lv_iadd hx hb dX5_answered_29 ?_
          refine q_reI (show (((nI (q_cnt (ans1 (s_she S (t * 8 + r))) i4)) + 0) : Int32) = nI (q_cnt (ans1 (s_she S (t * 8 + r))) i4 + 0) from nI_add _ _) ?_
          refine lv_istore_n (lv' := [(2, .int (nI (q_cnt (ans1 (s_she S (t * 8 + r))) i4 + 0))), (3, .int (nI i4)), (0, .ref (d 0)), (1, .int (nI (136 + 15 * (t * 8 + r))))]) hx hb dX5_answered_30 rfl hl (by decide) rfl (fun ls hl => ?_)
          refine lv_iinc (v := nI (i4 + 1)) (lv' := [(3, .int (nI (i4 + 1))), (2, .int (nI (q_cnt (ans1 (s_she S (t * 8 + r))) i4 + 0))), (0, .ref (d 0)), (1, .int (nI (136 + 15 * (t * 8 + r))))]) hx hb dX5_answered_31 hl (k := 1) rfl (nI_1 _) (by decide) rfl (fun ls hl => ?_)
          refine lv_goto (tgt := 4) hx hb dX5_answered_34 (by decide) ?_
          exact ih_i4 (i4 + 1) (nI (q_cnt (ans1 (s_she S (t * 8 + r))) i4 + 0)) (by simp [q_cnt, ans1, e15]) lt_i4 (by omega) ls (lv_sub hl [0, 1, 2, 3] rfl)
  exact L_4 (10 + 1) 0 0 (rfl) (Nat.zero_le _) (by omega) ls (lv_sub hl [0, 1, 2, 3] rfl)

set_option maxHeartbeats 4000000 in
set_option maxRecDepth 100000 in
theorem c_X5_fines (l : Launch) (g : q_G) (d : Nat → Nat) (M : q_MV) (S : q_St) (K : Nat) (hc : q_cp S (m_s M)) (ho : q_ok K S) (hK5 : K ≤ 512) : q_PM l yX5_fines wsX5_fines { frames := 1, cells := 0, slots := 0, locals := 20 } [.ref (d 0)] (q_B g (q_mdW g d M)) (.int (finA S)) := by
  refine q_pm (cc := cX5_fines) (maxL := 3) (ret := (some .int)) (by decide) rfl (Nat.le_of_ble_eq_true rfl) ?_
  intro p e s m args below meth c ls hx hb hml hown hts hr hlk hB hl
  obtain ⟨hP, hK, hN⟩ := hB
  have hn10 := ok_n ho
  have fl_7 := hts (.fieldLink RX5 7 "PubQuizzesModel" "s" "[I") (by decide +kernel)
  have hi_X5 : ∀ w ∈ u_ws RX5 TX5 7, w ∈ wsX5_fines := by decide +kernel
  have hl : lv_has ls 3 [(0, .ref (d 0))] := hl
  refine lv_iconst (v := 0) hx hb dX5_fines_0 (by decide) ?_
  refine lv_istore_n (lv' := [(1, .int 0), (0, .ref (d 0))]) hx hb dX5_fines_1 rfl hl (by decide) rfl (fun ls hl => ?_)
  refine lv_iconst (v := 0) hx hb dX5_fines_2 (by decide) ?_
  refine lv_istore_n (lv' := [(2, .int 0), (1, .int 0), (0, .ref (d 0))]) hx hb dX5_fines_3 rfl hl (by decide) rfl (fun ls hl => ?_)
  have L_4 : ∀ (fu i4 : Nat) (y1_4 : Int32), y1_4 = q_acc 0 (s_fin S) i4 → i4 ≤ s_n S → s_n S < i4 + fu → ∀ ls : Array Slot, lv_has ls 3 [(2, .int (nI i4)), (1, .int y1_4), (0, .ref (d 0))] → W p l e { frames := 1, cells := 0, slots := 0, locals := 20 } s m args below meth c s.heap [] 0 0 (MQ below (k2_QcV (.int (finA S))) args s 0 0 (fun _ => False)) (F0 m 4 ls []) := by
    intro fu
    induction fu with
    | zero => intro i4 y1_4 ey1_4 hi_i4 hn_i4; exact absurd hn_i4 (by omega)
    | succ fu ih_i4 =>
      intro i4 y1_4 ey1_4 hi_i4 hn_i4 ls hl
      subst ey1_4
      refine lv_iload_n hx hb dX5_fines_4 rfl (lv_at hl 0 rfl) ?_
      refine lv_aload_n hx hb dX5_fines_5 rfl (lv_at hl 2 rfl) ?_
      refine va_get (D := g.1) (ci := 4) (v := .ref (d 1)) (C := RX5) (T := TX5) (N := 7) hx hb hts hi_X5 hown hK hP 0 rfl rfl 0 (by decide) fl_7 (fun _ h9 => h9) rfl dX5_fines_6 ?_
      refine lv_iconst (v := 4) hx hb dX5_fines_9 (by decide) ?_
      refine q_iald (j := 4) hx hb hK hP 1 0 rfl rfl (by omega) (by decide) dX5_fines_10 ?_
      refine q_reI (show (m_s M 4 : Int32) = nI (s_n S) from cp_n hc) ?_
      refine lv_icmp_ge (tgt := 34) hx hb dX5_fines_11 (by decide) (fun c_11 => ?_) (fun c_11 => ?_)
      · skip
        have e_11 : i4 = s_n S := q_ge_T (by omega) hi_i4 c_11
        subst e_11
        refine lv_iload_n hx hb dX5_fines_34 rfl (lv_at hl 1 rfl) ?_
        exact q_iret hx hb hr hlk dX5_fines_35 (rfl)
      · skip
        have lt_i4 : i4 < s_n S := q_ge_F (by omega) hi_i4 c_11
        refine lv_iload_n hx hb dX5_fines_14 rfl (lv_at hl 1 rfl) ?_
        refine lv_aload_n hx hb dX5_fines_15 rfl (lv_at hl 2 rfl) ?_
        refine va_get (D := g.1) (ci := 4) (v := .ref (d 1)) (C := RX5) (T := TX5) (N := 7) hx hb hts hi_X5 hown hK hP 0 rfl rfl 0 (by decide) fl_7 (fun _ h9 => h9) rfl dX5_fines_16 ?_
        refine lv_iload_n hx hb dX5_fines_19 rfl (lv_at hl 0 rfl) ?_
        refine q_S (As := [.int (nI i4)]) (rest := [.ref (d 1), .int (q_acc 0 (s_fin S) i4)]) ⟨hx, hb, hml, hown, hts⟩ (c_X5_t l i4 ) (va_cwS 1 hts gX5_fines_X5_t rfl rfl rfl (by decide +kernel) ⟨Nat.le_of_ble_eq_true rfl, Nat.le_of_ble_eq_true rfl⟩) q_Blind_t (fun _ _ _ => trivial) rfl hl.1 rfl (Nat.le_of_ble_eq_true rfl) dX5_fines_20 (Nat.zero_le _) (Nat.zero_le _) ?_
        refine lv_iconst (v := 2) hx hb dX5_fines_23 (by decide) ?_
        refine lv_iadd hx hb dX5_fines_24 ?_
        refine q_reI (show (((nI (96 + 4 * i4)) + 2) : Int32) = nI (96 + 4 * i4 + 2) from nI_add _ _) ?_
        refine q_iald (j := (96 + 4 * i4 + 2)) hx hb hK hP 1 0 rfl rfl (by omega) (by decide) dX5_fines_25 ?_
        refine q_reI (show (m_s M (96 + 4 * i4 + 2) : Int32) = s_fin S i4 from cp_fin hc (t := i4) (by omega)) ?_
        refine lv_iadd hx hb dX5_fines_26 ?_
        refine lv_istore_n (lv' := [(1, .int ((q_acc 0 (s_fin S) i4) + (s_fin S i4))), (2, .int (nI i4)), (0, .ref (d 0))]) hx hb dX5_fines_27 rfl hl (by decide) rfl (fun ls hl => ?_)
        refine lv_iinc (v := nI (i4 + 1)) (lv' := [(2, .int (nI (i4 + 1))), (1, .int ((q_acc 0 (s_fin S) i4) + (s_fin S i4))), (0, .ref (d 0))]) hx hb dX5_fines_28 hl (k := 1) rfl (nI_1 _) (by decide) rfl (fun ls hl => ?_)
        refine lv_goto (tgt := 4) hx hb dX5_fines_31 (by decide) ?_
        exact ih_i4 (i4 + 1) ((q_acc 0 (s_fin S) i4) + (s_fin S i4)) (by first | (simp [q_acc, q_or, q_cnt, q_any, nI_1, bI_t]; done) | rfl) lt_i4 (by omega) ls (lv_sub hl [0, 1, 2] rfl)
  exact L_4 (s_n S + 1) 0 0 (rfl) (Nat.zero_le _) (by omega) ls (lv_sub hl [0, 1, 2] rfl)

set_option maxHeartbeats 4000000 in
set_option maxRecDepth 100000 in
theorem c_X5_unlike (l : Launch) (g : q_G) (d : Nat → Nat) (M : q_MV) (S : q_St) (K : Nat) (hc : q_cp S (m_s M)) (ho : q_ok K S) (hK5 : K ≤ 512) : q_PM l yX5_unlike wsX5_unlike { frames := 4, cells := 0, slots := 0, locals := 89 } [.ref (d 0)] (q_B g (q_mdW g d M)) (.int (nI (unlS S))) := by
  refine q_pm (cc := cX5_unlike) (maxL := 5) (ret := (some .int)) (by decide) rfl (Nat.le_of_ble_eq_true rfl) ?_
  intro p e s m args below meth c ls hx hb hml hown hts hr hlk hB hl
  obtain ⟨hP, hK, hN⟩ := hB
  have hn10 := ok_n ho
  have fl_7 := hts (.fieldLink RX5 7 "PubQuizzesModel" "s" "[I") (by decide +kernel)
  have hi_X5 : ∀ w ∈ u_ws RX5 TX5 7, w ∈ wsX5_unlike := by decide +kernel
  have hl : lv_has ls 5 [(0, .ref (d 0))] := hl
  refine lv_iconst (v := 0) hx hb dX5_unlike_0 (by decide) ?_
  refine lv_istore_n (lv' := [(1, .int 0), (0, .ref (d 0))]) hx hb dX5_unlike_1 rfl hl (by decide) rfl (fun ls hl => ?_)
  refine lv_iconst (v := 0) hx hb dX5_unlike_2 (by decide) ?_
  refine lv_istore_n (lv' := [(2, .int 0), (1, .int 0), (0, .ref (d 0))]) hx hb dX5_unlike_3 rfl hl (by decide) rfl (fun ls hl => ?_)
  have L_4 : ∀ (fu i4 : Nat) (y1_4 : Int32), y1_4 = nI (q_cnt (fst1 S) i4) → i4 ≤ s_n S → s_n S < i4 + fu → ∀ ls : Array Slot, lv_has ls 5 [(2, .int (nI i4)), (1, .int y1_4), (0, .ref (d 0))] → W p l e { frames := 4, cells := 0, slots := 0, locals := 89 } s m args below meth c s.heap [] 0 0 (MQ below (k2_QcV (.int (nI (unlS S)))) args s 0 0 (fun _ => False)) (F0 m 4 ls []) := by
    intro fu
    induction fu with
    | zero => intro i4 y1_4 ey1_4 hi_i4 hn_i4; exact absurd hn_i4 (by omega)
    | succ fu ih_i4 =>
      intro i4 y1_4 ey1_4 hi_i4 hn_i4 ls hl
      subst ey1_4
      refine lv_iload_n hx hb dX5_unlike_4 rfl (lv_at hl 0 rfl) ?_
      refine lv_aload_n hx hb dX5_unlike_5 rfl (lv_at hl 2 rfl) ?_
      refine va_get (D := g.1) (ci := 4) (v := .ref (d 1)) (C := RX5) (T := TX5) (N := 7) hx hb hts hi_X5 hown hK hP 0 rfl rfl 0 (by decide) fl_7 (fun _ h9 => h9) rfl dX5_unlike_6 ?_
      refine lv_iconst (v := 4) hx hb dX5_unlike_9 (by decide) ?_
      refine q_iald (j := 4) hx hb hK hP 1 0 rfl rfl (by omega) (by decide) dX5_unlike_10 ?_
      refine q_reI (show (m_s M 4 : Int32) = nI (s_n S) from cp_n hc) ?_
      refine lv_icmp_ge (tgt := 73) hx hb dX5_unlike_11 (by decide) (fun c_11 => ?_) (fun c_11 => ?_)
      · skip
        have e_11 : i4 = s_n S := q_ge_T (by omega) hi_i4 c_11
        subst e_11
        refine lv_iload_n hx hb dX5_unlike_73 rfl (lv_at hl 1 rfl) ?_
        exact q_iret hx hb hr hlk dX5_unlike_74 (rfl)
      · skip
        have lt_i4 : i4 < s_n S := q_ge_F (by omega) hi_i4 c_11
        refine lv_iconst (v := 1) hx hb dX5_unlike_14 (by decide) ?_
        refine lv_istore_n (lv' := [(3, .int 1), (2, .int (nI i4)), (1, .int (nI (q_cnt (fst1 S) i4))), (0, .ref (d 0))]) hx hb dX5_unlike_15 rfl hl (by decide) rfl (fun ls hl => ?_)
        refine lv_iconst (v := 0) hx hb dX5_unlike_16 (by decide) ?_
        refine lv_istore (lv' := [(4, .int 0), (3, .int 1), (2, .int (nI i4)), (1, .int (nI (q_cnt (fst1 S) i4))), (0, .ref (d 0))]) hx hb dX5_unlike_17 hl (by decide) rfl (fun ls hl => ?_)
        have L_19 : ∀ (fu i19 : Nat) (y3_19 : Int32), y3_19 = bI (!q_any (fun o => decide (scoS S o = scoS S i4)) i19) → i19 ≤ i4 → i4 < i19 + fu → ∀ ls : Array Slot, lv_has ls 5 [(4, .int (nI i19)), (3, .int y3_19), (2, .int (nI i4)), (1, .int (nI (q_cnt (fst1 S) i4))), (0, .ref (d 0))] → W p l e { frames := 4, cells := 0, slots := 0, locals := 89 } s m args below meth c s.heap [] 0 0 (MQ below (k2_QcV (.int (nI (unlS S)))) args s 0 0 (fun _ => False)) (F0 m 19 ls []) := by
          intro fu
          induction fu with
          | zero => intro i19 y3_19 ey3_19 hi_i19 hn_i19; exact absurd hn_i19 (by omega)
          | succ fu ih_i19 =>
            intro i19 y3_19 ey3_19 hi_i19 hn_i19 ls hl
            subst ey3_19
            refine lv_iload hx hb dX5_unlike_19 (lv_at hl 0 rfl) ?_
            refine lv_iload_n hx hb dX5_unlike_21 rfl (lv_at hl 2 rfl) ?_
            refine lv_icmp_ge (tgt := 55) hx hb dX5_unlike_22 (by decide) (fun c_22 => ?_) (fun c_22 => ?_)
            · skip
              have e_22 : i19 = i4 := q_ge_T (by omega) hi_i19 c_22
              rw [e_22] at hl
              refine lv_iload_n hx hb dX5_unlike_55 rfl (lv_at hl 3 rfl) ?_
              refine lv_iload_n hx hb dX5_unlike_56 rfl (lv_at hl 1 rfl) ?_
              refine lv_if_eq (tgt := 64) hx hb dX5_unlike_57 (by decide) (fun c_57 => ?_) (fun c_57 => ?_)
              · skip
                have c_57 : (!q_any (fun o => decide (scoS S o = scoS S i4)) i4) = false := bI_eq c_57
                refine lv_iconst (v := 0) hx hb dX5_unlike_64 (by decide) ?_
                refine lv_iadd hx hb dX5_unlike_65 ?_
                refine q_reI (show (((nI (q_cnt (fst1 S) i4)) + 0) : Int32) = nI (q_cnt (fst1 S) i4 + 0) from nI_add _ _) ?_
                refine lv_istore_n (lv' := [(1, .int (nI (q_cnt (fst1 S) i4 + 0))), (4, .int (nI i4)), (3, .int (bI (!q_any (fun o => decide (scoS S o = scoS S i4)) i4))), (2, .int (nI i4)), (0, .ref (d 0))]) hx hb dX5_unlike_66 rfl hl (by decide) rfl (fun ls hl => ?_)
                refine lv_iinc (v := nI (i4 + 1)) (lv' := [(2, .int (nI (i4 + 1))), (1, .int (nI (q_cnt (fst1 S) i4 + 0))), (4, .int (nI i4)), (3, .int (bI (!q_any (fun o => decide (scoS S o = scoS S i4)) i4))), (0, .ref (d 0))]) hx hb dX5_unlike_67 hl (k := 3) rfl (nI_1 _) (by decide) rfl (fun ls hl => ?_)
                refine lv_goto (tgt := 4) hx hb dX5_unlike_70 (by decide) ?_
                exact ih_i4 (i4 + 1) (nI (q_cnt (fst1 S) i4 + 0)) (by simp [q_cnt, fst1, c_57]) lt_i4 (by omega) ls (lv_sub hl [0, 1, 4] rfl)
              · skip
                have c_57 : (!q_any (fun o => decide (scoS S o = scoS S i4)) i4) = true := bI_ne c_57
                refine lv_iconst (v := 1) hx hb dX5_unlike_60 (by decide) ?_
                refine lv_goto (tgt := 65) hx hb dX5_unlike_61 (by decide) ?_
                refine lv_iadd hx hb dX5_unlike_65 ?_
                refine q_reI (show (((nI (q_cnt (fst1 S) i4)) + 1) : Int32) = nI (q_cnt (fst1 S) i4 + 1) from nI_add _ _) ?_
                refine lv_istore_n (lv' := [(1, .int (nI (q_cnt (fst1 S) i4 + 1))), (4, .int (nI i4)), (3, .int (bI (!q_any (fun o => decide (scoS S o = scoS S i4)) i4))), (2, .int (nI i4)), (0, .ref (d 0))]) hx hb dX5_unlike_66 rfl hl (by decide) rfl (fun ls hl => ?_)
                refine lv_iinc (v := nI (i4 + 1)) (lv' := [(2, .int (nI (i4 + 1))), (1, .int (nI (q_cnt (fst1 S) i4 + 1))), (4, .int (nI i4)), (3, .int (bI (!q_any (fun o => decide (scoS S o = scoS S i4)) i4))), (0, .ref (d 0))]) hx hb dX5_unlike_67 hl (k := 3) rfl (nI_1 _) (by decide) rfl (fun ls hl => ?_)
                refine lv_goto (tgt := 4) hx hb dX5_unlike_70 (by decide) ?_
                exact ih_i4 (i4 + 1) (nI (q_cnt (fst1 S) i4 + 1)) (by simp [q_cnt, fst1, c_57]) lt_i4 (by omega) ls (lv_sub hl [0, 1, 4] rfl)
            · skip
              have lt_i19 : i19 < i4 := q_ge_F (by omega) hi_i19 c_22
              refine lv_iload_n hx hb dX5_unlike_25 rfl (lv_at hl 1 rfl) ?_
              refine lv_if_eq (tgt := 47) hx hb dX5_unlike_26 (by decide) (fun c_26 => ?_) (fun c_26 => ?_)
              · skip
                have c_26 : (!q_any (fun o => decide (scoS S o = scoS S i4)) i19) = false := bI_eq c_26
                refine lv_iconst (v := 0) hx hb dX5_unlike_47 (by decide) ?_
                refine lv_istore_n (lv' := [(3, .int 0), (4, .int (nI i19)), (2, .int (nI i4)), (1, .int (nI (q_cnt (fst1 S) i4))), (0, .ref (d 0))]) hx hb dX5_unlike_48 rfl hl (by decide) rfl (fun ls hl => ?_)
                refine lv_iinc (v := nI (i19 + 1)) (lv' := [(4, .int (nI (i19 + 1))), (3, .int 0), (2, .int (nI i4)), (1, .int (nI (q_cnt (fst1 S) i4))), (0, .ref (d 0))]) hx hb dX5_unlike_49 hl (k := 1) rfl (nI_1 _) (by decide) rfl (fun ls hl => ?_)
                refine lv_goto (tgt := 19) hx hb dX5_unlike_52 (by decide) ?_
                exact ih_i19 (i19 + 1) 0 (by simp [q_any, bI, c_26]) lt_i19 (by omega) ls (lv_sub hl [0, 1, 2, 3, 4] rfl)
              · skip
                have c_26 : (!q_any (fun o => decide (scoS S o = scoS S i4)) i19) = true := bI_ne c_26
                refine lv_aload_n hx hb dX5_unlike_29 rfl (lv_at hl 4 rfl) ?_
                refine lv_iload hx hb dX5_unlike_30 (lv_at hl 0 rfl) ?_
                refine q_V (As := [.int (nI i19)]) (rest := []) ⟨hx, hb, hml, hown, hts⟩ (c_X5_score l g d M S K hc ho hK5 i19 (by omega)) (cwV 1 hts gX5_unlike_X5_score rfl rfl rfl (by decide +kernel) ⟨Nat.le_of_ble_eq_true rfl, Nat.le_of_ble_eq_true rfl⟩) q_B_blind (va_recv hK hP (ci := 4) (q0 := 0) rfl rfl) (q_B_of hP hK hN) rfl hl.1 rfl (Nat.le_of_ble_eq_true rfl) dX5_unlike_32 (Nat.zero_le _) (Nat.zero_le _) ?_
                refine lv_aload_n hx hb dX5_unlike_35 rfl (lv_at hl 4 rfl) ?_
                refine lv_iload_n hx hb dX5_unlike_36 rfl (lv_at hl 2 rfl) ?_
                refine q_V (As := [.int (nI i4)]) (rest := [.int (scoS S i19)]) ⟨hx, hb, hml, hown, hts⟩ (c_X5_score l g d M S K hc ho hK5 i4 (by omega)) (cwV 1 hts gX5_unlike_X5_score rfl rfl rfl (by decide +kernel) ⟨Nat.le_of_ble_eq_true rfl, Nat.le_of_ble_eq_true rfl⟩) q_B_blind (va_recv hK hP (ci := 4) (q0 := 0) rfl rfl) (q_B_of hP hK hN) rfl hl.1 rfl (Nat.le_of_ble_eq_true rfl) dX5_unlike_37 (Nat.zero_le _) (Nat.zero_le _) ?_
                refine lv_icmp_eq (tgt := 47) hx hb dX5_unlike_40 (by decide) (fun c_40 => ?_) (fun c_40 => ?_)
                · skip
                  refine lv_iconst (v := 0) hx hb dX5_unlike_47 (by decide) ?_
                  refine lv_istore_n (lv' := [(3, .int 0), (4, .int (nI i19)), (2, .int (nI i4)), (1, .int (nI (q_cnt (fst1 S) i4))), (0, .ref (d 0))]) hx hb dX5_unlike_48 rfl hl (by decide) rfl (fun ls hl => ?_)
                  refine lv_iinc (v := nI (i19 + 1)) (lv' := [(4, .int (nI (i19 + 1))), (3, .int 0), (2, .int (nI i4)), (1, .int (nI (q_cnt (fst1 S) i4))), (0, .ref (d 0))]) hx hb dX5_unlike_49 hl (k := 1) rfl (nI_1 _) (by decide) rfl (fun ls hl => ?_)
                  refine lv_goto (tgt := 19) hx hb dX5_unlike_52 (by decide) ?_
                  exact ih_i19 (i19 + 1) 0 (by simp [q_any, bI, c_26, c_40]) lt_i19 (by omega) ls (lv_sub hl [0, 1, 2, 3, 4] rfl)
                · skip
                  refine lv_iconst (v := 1) hx hb dX5_unlike_43 (by decide) ?_
                  refine lv_goto (tgt := 48) hx hb dX5_unlike_44 (by decide) ?_
                  refine lv_istore_n (lv' := [(3, .int 1), (4, .int (nI i19)), (2, .int (nI i4)), (1, .int (nI (q_cnt (fst1 S) i4))), (0, .ref (d 0))]) hx hb dX5_unlike_48 rfl hl (by decide) rfl (fun ls hl => ?_)
                  refine lv_iinc (v := nI (i19 + 1)) (lv' := [(4, .int (nI (i19 + 1))), (3, .int 1), (2, .int (nI i4)), (1, .int (nI (q_cnt (fst1 S) i4))), (0, .ref (d 0))]) hx hb dX5_unlike_49 hl (k := 1) rfl (nI_1 _) (by decide) rfl (fun ls hl => ?_)
                  refine lv_goto (tgt := 19) hx hb dX5_unlike_52 (by decide) ?_
                  exact ih_i19 (i19 + 1) 1 (by simp [q_any, bI, c_26, c_40]) lt_i19 (by omega) ls (lv_sub hl [0, 1, 2, 3, 4] rfl)
        exact L_19 (i4 + 1) 0 1 (rfl) (Nat.zero_le _) (by omega) ls (lv_sub hl [0, 1, 2, 3, 4] rfl)
  exact L_4 (s_n S + 1) 0 0 (rfl) (Nat.zero_le _) (by omega) ls (lv_sub hl [0, 1, 2] rfl)
