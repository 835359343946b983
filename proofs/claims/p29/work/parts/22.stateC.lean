set_option maxHeartbeats 4000000 in
set_option maxRecDepth 100000 in
theorem c_X3_prizeOf (l : Launch) (g : q_G) (q : Nat → Nat) (S : q_St) (t : Nat) (h1_ : t < 10) (h2_ : s_n S ≤ 10) (h3_ : t ≤ s_n S) : q_PM l yX3_prizeOf wsX3_prizeOf { frames := 5, cells := 0, slots := 0, locals := 115 } [.ref (q 0), .int (nI t)] (q_B g (q_stW g q S)) (.int (przS S t)) := by
  refine q_pm (cc := cX3_prizeOf) (maxL := 7) (ret := (some .int)) (by decide) rfl (Nat.le_of_ble_eq_true rfl) ?_
  intro p e s m args below meth c ls hx hb hml hown hts hr hlk hB hl
  obtain ⟨hP, hK, hN⟩ := hB
  have hl : lv_has ls 7 [(0, .ref (q 0)), (1, .int (nI t))] := hl
  have hc1 := q_cnt_le (tie1 S t) (s_n S)
  have hc2 := q_cnt_le (fun o => aheS S o t) (s_n S)
  have hsh : shrN S t ≤ 11 := by unfold shrN; omega
  have hsh1 : 1 ≤ shrN S t := by unfold shrN; omega
  have hrk : rnkS S t ≤ 11 := by unfold rnkS; omega
  refine lv_aload_n hx hb dX3_prizeOf_0 rfl (lv_at hl 0 rfl) ?_
  refine lv_iload_n hx hb dX3_prizeOf_1 rfl (lv_at hl 1 rfl) ?_
  refine q_V (As := [.int (nI t)]) (rest := []) ⟨hx, hb, hml, hown, hts⟩ (c_X3_rankOf l g q S t (by omega) (by omega)) (cwV 1 hts gX3_prizeOf_X3_rankOf rfl rfl rfl (by decide +kernel) ⟨Nat.le_of_ble_eq_true rfl, Nat.le_of_ble_eq_true rfl⟩) q_B_blind (va_recv hK hP (ci := 2) (q0 := 0) rfl rfl) (q_B_of hP hK hN) rfl hl.1 rfl (Nat.le_of_ble_eq_true rfl) dX3_prizeOf_2 (Nat.zero_le _) (Nat.zero_le _) ?_
  refine lv_istore_n (lv' := [(2, .int (nI (rnkS S t))), (0, .ref (q 0)), (1, .int (nI t))]) hx hb dX3_prizeOf_5 rfl hl (by decide) rfl (fun ls hl => ?_)
  refine lv_aload_n hx hb dX3_prizeOf_6 rfl (lv_at hl 1 rfl) ?_
  refine lv_iload_n hx hb dX3_prizeOf_7 rfl (lv_at hl 2 rfl) ?_
  refine q_V (As := [.int (nI t)]) (rest := []) ⟨hx, hb, hml, hown, hts⟩ (c_X3_tiedWith l g q S t (by omega) (by omega)) (cwV 1 hts gX3_prizeOf_X3_tiedWith rfl rfl rfl (by decide +kernel) ⟨Nat.le_of_ble_eq_true rfl, Nat.le_of_ble_eq_true rfl⟩) q_B_blind (va_recv hK hP (ci := 2) (q0 := 0) rfl rfl) (q_B_of hP hK hN) rfl hl.1 rfl (Nat.le_of_ble_eq_true rfl) dX3_prizeOf_8 (Nat.zero_le _) (Nat.zero_le _) ?_
  refine lv_istore_n (lv' := [(3, .int (tieS S t)), (2, .int (nI (rnkS S t))), (0, .ref (q 0)), (1, .int (nI t))]) hx hb dX3_prizeOf_11 rfl hl (by decide) rfl (fun ls hl => ?_)
  refine lv_iconst (v := 1) hx hb dX3_prizeOf_12 (by decide) ?_
  refine lv_iload_n hx hb dX3_prizeOf_13 rfl (lv_at hl 0 rfl) ?_
  refine q_S (As := [.int (tieS S t)]) (rest := [.int 1]) ⟨hx, hb, hml, hown, hts⟩ (c_J6_bitCount_0f7a4 l (tieS S t) ) (va_cwS 1 hts gX3_prizeOf_J6_bitCount_0f7a4 rfl rfl rfl (by decide +kernel) ⟨Nat.le_of_ble_eq_true rfl, Nat.le_of_ble_eq_true rfl⟩) q_Blind_t (fun _ _ _ => trivial) rfl hl.1 rfl (Nat.le_of_ble_eq_true rfl) dX3_prizeOf_14 (Nat.zero_le _) (Nat.zero_le _) ?_
  refine lv_iadd hx hb dX3_prizeOf_17 ?_
  refine q_reI (show ((1 + (popc (tieS S t))) : Int32) = nI (shrN S t) from by rw [tieS, q_popN (tie1 S t) (s_n S) h2_, Int32.add_comm, nI_1]; rfl) ?_
  refine lv_istore (lv' := [(4, .int (nI (shrN S t))), (3, .int (tieS S t)), (2, .int (nI (rnkS S t))), (0, .ref (q 0)), (1, .int (nI t))]) hx hb dX3_prizeOf_18 hl (by decide) rfl (fun ls hl => ?_)
  refine lv_iload hx hb dX3_prizeOf_20 (lv_at hl 0 rfl) ?_
  refine lv_iconst (v := 1) hx hb dX3_prizeOf_22 (by decide) ?_
  refine lv_icmp_ge (tgt := 28) hx hb dX3_prizeOf_23 (by decide) (fun c_23 => ?_) (fun c_23 => ?_)
  · skip
    refine lv_iconst (v := 0) hx hb dX3_prizeOf_28 (by decide) ?_
    refine lv_istore (lv' := [(5, .int 0), (4, .int (nI (shrN S t))), (3, .int (tieS S t)), (2, .int (nI (rnkS S t))), (0, .ref (q 0)), (1, .int (nI t))]) hx hb dX3_prizeOf_29 hl (by decide) rfl (fun ls hl => ?_)
    refine lv_iload_n hx hb dX3_prizeOf_31 rfl (lv_at hl 3 rfl) ?_
    refine lv_istore (lv' := [(6, .int (nI (rnkS S t))), (5, .int 0), (4, .int (nI (shrN S t))), (3, .int (tieS S t)), (2, .int (nI (rnkS S t))), (0, .ref (q 0)), (1, .int (nI t))]) hx hb dX3_prizeOf_32 hl (by decide) rfl (fun ls hl => ?_)
    have L_34 : ∀ (n i34 : Nat) (y5_34 : Int32), y5_34 = sumP S t (i34 - rnkS S t) → rnkS S t ≤ i34 → i34 ≤ rnkS S t + shrN S t → rnkS S t + shrN S t < i34 + n → ∀ ls : Array Slot, lv_has ls 7 [(6, .int (nI i34)), (5, .int y5_34), (4, .int (nI (shrN S t))), (3, .int (tieS S t)), (2, .int (nI (rnkS S t))), (0, .ref (q 0)), (1, .int (nI t))] → W p l e { frames := 5, cells := 0, slots := 0, locals := 115 } s m args below meth c s.heap [] 0 0 (MQ below (k2_QcV (.int (przS S t))) args s 0 0 (fun _ => False)) (F0 m 34 ls []) := by
      intro n
      induction n with
      | zero => intro i34 y5_34 ey5_34 hs_i34 hi_i34 hn_i34; exact absurd hn_i34 (by omega)
      | succ n ih_i34 =>
        intro i34 y5_34 ey5_34 hs_i34 hi_i34 hn_i34 ls hl
        subst ey5_34
        refine lv_iload hx hb dX3_prizeOf_34 (lv_at hl 0 rfl) ?_
        refine lv_iload_n hx hb dX3_prizeOf_36 rfl (lv_at hl 4 rfl) ?_
        refine lv_iload hx hb dX3_prizeOf_37 (lv_at hl 2 rfl) ?_
        refine lv_iadd hx hb dX3_prizeOf_39 ?_
        refine q_reI (show (((nI (rnkS S t)) + (nI (shrN S t))) : Int32) = nI (rnkS S t + shrN S t) from nI_add _ _) ?_
        refine lv_icmp_ge (tgt := 60) hx hb dX3_prizeOf_40 (by decide) (fun c_40 => ?_) (fun c_40 => ?_)
        · skip
          have e_40 : i34 = rnkS S t + shrN S t := q_ge_T (by omega) hi_i34 c_40
          subst e_40
          rw [show rnkS S t + shrN S t - rnkS S t = shrN S t from Nat.add_sub_cancel_left _ _] at hl
          refine lv_iload hx hb dX3_prizeOf_60 (lv_at hl 1 rfl) ?_
          refine lv_iload hx hb dX3_prizeOf_62 (lv_at hl 2 rfl) ?_
          refine lv_irem hx hb dX3_prizeOf_64 (nI_ne0 hsh1 (by omega)) ?_
          refine lv_istore (lv' := [(6, .int ((sumP S t (shrN S t)) - (sumP S t (shrN S t)) / (nI (shrN S t)) * (nI (shrN S t)))), (5, .int (sumP S t (shrN S t))), (4, .int (nI (shrN S t))), (3, .int (tieS S t)), (2, .int (nI (rnkS S t))), (0, .ref (q 0)), (1, .int (nI t))]) hx hb dX3_prizeOf_65 hl (by decide) rfl (fun ls hl => ?_)
          refine lv_iload hx hb dX3_prizeOf_67 (lv_at hl 1 rfl) ?_
          refine lv_iload hx hb dX3_prizeOf_69 (lv_at hl 2 rfl) ?_
          refine lv_idiv hx hb dX3_prizeOf_71 (nI_ne0 hsh1 (by omega)) ?_
          refine lv_iload_n hx hb dX3_prizeOf_72 rfl (lv_at hl 3 rfl) ?_
          refine lv_iload_n hx hb dX3_prizeOf_73 rfl (lv_at hl 6 rfl) ?_
          refine q_S (As := [.int (tieS S t), .int (nI t)]) (rest := [.int ((sumP S t (shrN S t)) / (nI (shrN S t)))]) ⟨hx, hb, hml, hown, hts⟩ (c_X3_lowerIn l (tieS S t) t ) (va_cwS 2 hts gX3_prizeOf_X3_lowerIn rfl rfl rfl (by decide +kernel) ⟨Nat.le_of_ble_eq_true rfl, Nat.le_of_ble_eq_true rfl⟩) q_Blind_t (fun _ _ _ => trivial) rfl hl.1 rfl (Nat.le_of_ble_eq_true rfl) dX3_prizeOf_74 (Nat.zero_le _) (Nat.zero_le _) ?_
          refine q_reI (show (popc (lowM (tieS S t) t) : Int32) = nI (q_cnt (tie1 S t) t) from by rw [tieS, q_lowC (tie1 S t) t (s_n S) h3_ h1_ h2_]) ?_
          refine lv_iload hx hb dX3_prizeOf_77 (lv_at hl 0 rfl) ?_
          refine lv_icmp_ge (tgt := 86) hx hb dX3_prizeOf_79 (by decide) (fun c_79 => ?_) (fun c_79 => ?_)
          · skip
            refine lv_iconst (v := 0) hx hb dX3_prizeOf_86 (by decide) ?_
            refine lv_iadd hx hb dX3_prizeOf_87 ?_
            exact q_iret hx hb hr hlk dX3_prizeOf_88 (by simp only [przS, if_pos c_23, if_pos c_79])
          · skip
            refine lv_iconst (v := 1) hx hb dX3_prizeOf_82 (by decide) ?_
            refine lv_goto (tgt := 87) hx hb dX3_prizeOf_83 (by decide) ?_
            refine lv_iadd hx hb dX3_prizeOf_87 ?_
            exact q_iret hx hb hr hlk dX3_prizeOf_88 (by simp only [przS, if_pos c_23, if_neg c_79])
        · skip
          have lt_i34 : i34 < rnkS S t + shrN S t := q_ge_F (by omega) hi_i34 c_40
          refine lv_iload hx hb dX3_prizeOf_43 (lv_at hl 1 rfl) ?_
          refine lv_aload_n hx hb dX3_prizeOf_45 rfl (lv_at hl 5 rfl) ?_
          refine lv_iload hx hb dX3_prizeOf_46 (lv_at hl 0 rfl) ?_
          refine q_V (As := [.int (nI i34)]) (rest := [.int (sumP S t (i34 - rnkS S t))]) ⟨hx, hb, hml, hown, hts⟩ (c_X3_prizeOfPlace l g q S (nI i34) (by omega)) (cwV 1 hts gX3_prizeOf_X3_prizeOfPlace rfl rfl rfl (by decide +kernel) ⟨Nat.le_of_ble_eq_true rfl, Nat.le_of_ble_eq_true rfl⟩) q_B_blind (va_recv hK hP (ci := 2) (q0 := 0) rfl rfl) (q_B_of hP hK hN) rfl hl.1 rfl (Nat.le_of_ble_eq_true rfl) dX3_prizeOf_48 (Nat.zero_le _) (Nat.zero_le _) ?_
          refine lv_iadd hx hb dX3_prizeOf_51 ?_
          refine lv_istore (lv' := [(5, .int ((sumP S t (i34 - rnkS S t)) + (prpS S (nI i34)))), (6, .int (nI i34)), (4, .int (nI (shrN S t))), (3, .int (tieS S t)), (2, .int (nI (rnkS S t))), (0, .ref (q 0)), (1, .int (nI t))]) hx hb dX3_prizeOf_52 hl (by decide) rfl (fun ls hl => ?_)
          refine lv_iinc (v := nI (i34 + 1)) (lv' := [(6, .int (nI (i34 + 1))), (5, .int ((sumP S t (i34 - rnkS S t)) + (prpS S (nI i34)))), (4, .int (nI (shrN S t))), (3, .int (tieS S t)), (2, .int (nI (rnkS S t))), (0, .ref (q 0)), (1, .int (nI t))]) hx hb dX3_prizeOf_54 hl (k := 1) rfl (nI_1 _) (by decide) rfl (fun ls hl => ?_)
          refine lv_goto (tgt := 34) hx hb dX3_prizeOf_57 (by decide) ?_
          exact ih_i34 (i34 + 1) ((sumP S t (i34 - rnkS S t)) + (prpS S (nI i34))) (q_sumP S t i34 hs_i34) (by omega) lt_i34 (by omega) ls (lv_sub hl [0, 1, 2, 3, 4, 5, 6] rfl)
    exact L_34 (rnkS S t + shrN S t + 1) (rnkS S t) 0 (by rw [Nat.sub_self]; rfl) (Nat.le_refl _) (by omega) (by omega) ls (lv_sub hl [0, 1, 2, 3, 4, 5, 6] rfl)
  · skip
    exact absurd (nI_le hsh1 (by omega) : nI 1 ≤ nI (shrN S t)) c_23

set_option maxHeartbeats 4000000 in
set_option maxRecDepth 100000 in
theorem c_X3_scoreWithJokerOn (l : Launch) (g : q_G) (q : Nat → Nat) (S : q_St) (t : Nat) (j : Nat) (h1_ : t < 10) : q_PM l yX3_scoreWithJokerOn wsX3_scoreWithJokerOn { frames := 3, cells := 0, slots := 0, locals := 65 } [.ref (q 0), .int (nI t), .int (nI j)] (q_B g (q_stW g q S)) (.int (swjS S t (nI j))) := by
  refine q_pm (cc := cX3_scoreWithJokerOn) (maxL := 6) (ret := (some .int)) (by decide) rfl (Nat.le_of_ble_eq_true rfl) ?_
  intro p e s m args below meth c ls hx hb hml hown hts hr hlk hB hl
  obtain ⟨hP, hK, hN⟩ := hB
  have fl_9 := hts (.fieldLink RX3 9 "PubQuizzes$State" "settings" "[I") (by decide +kernel)
  have fl_21 := hts (.fieldLink RX3 21 "PubQuizzes$State" "fines" "[I") (by decide +kernel)
  have hi_X3 : ∀ w ∈ u_ws RX3 TX3 12, w ∈ wsX3_scoreWithJokerOn := by decide +kernel
  have hl : lv_has ls 6 [(0, .ref (q 0)), (1, .int (nI t)), (2, .int (nI j))] := hl
  refine lv_aload_n hx hb dX3_scoreWithJokerOn_0 rfl (lv_at hl 0 rfl) ?_
  refine va_get (D := g.1) (ci := 2) (v := .ref (q 1)) (C := RX3) (T := TX3) (N := 12) hx hb hts hi_X3 hown hK hP 0 rfl rfl 0 (by decide) fl_9 (fun _ h9 => h9) rfl dX3_scoreWithJokerOn_1 ?_
  refine lv_iconst (v := 3) hx hb dX3_scoreWithJokerOn_4 (by decide) ?_
  refine q_iald (j := 3) hx hb hK hP 1 0 rfl rfl (by omega) (by decide) dX3_scoreWithJokerOn_5 ?_
  refine lv_ineg hx hb dX3_scoreWithJokerOn_6 ?_
  refine lv_aload_n hx hb dX3_scoreWithJokerOn_7 rfl (lv_at hl 0 rfl) ?_
  refine va_get (D := g.1) (ci := 2) (v := .ref (q 4)) (C := RX3) (T := TX3) (N := 12) hx hb hts hi_X3 hown hK hP 0 rfl rfl 3 (by decide) fl_21 (fun _ h9 => h9) rfl dX3_scoreWithJokerOn_8 ?_
  refine lv_iload_n hx hb dX3_scoreWithJokerOn_11 rfl (lv_at hl 1 rfl) ?_
  refine q_iald (j := t) hx hb hK hP 4 0 rfl rfl (by omega) (by decide) dX3_scoreWithJokerOn_12 ?_
  refine lv_imul hx hb dX3_scoreWithJokerOn_13 ?_
  refine lv_istore_n (lv' := [(3, .int ((-(s_set S 3)) * (s_fin S t))), (0, .ref (q 0)), (1, .int (nI t)), (2, .int (nI j))]) hx hb dX3_scoreWithJokerOn_14 rfl hl (by decide) rfl (fun ls hl => ?_)
  refine lv_iconst (v := 0) hx hb dX3_scoreWithJokerOn_15 (by decide) ?_
  refine lv_istore (lv' := [(4, .int 0), (3, .int ((-(s_set S 3)) * (s_fin S t))), (0, .ref (q 0)), (1, .int (nI t)), (2, .int (nI j))]) hx hb dX3_scoreWithJokerOn_16 hl (by decide) rfl (fun ls hl => ?_)
  have L_18 : ∀ (n i18 : Nat) (y3_18 : Int32), y3_18 = q_acc (fineS S t) (wjS S t (nI j)) i18 → i18 ≤ 8 → 8 < i18 + n → ∀ ls : Array Slot, lv_has ls 6 [(4, .int (nI i18)), (3, .int y3_18), (0, .ref (q 0)), (1, .int (nI t)), (2, .int (nI j))] → W p l e { frames := 3, cells := 0, slots := 0, locals := 65 } s m args below meth c s.heap [] 0 0 (MQ below (k2_QcV (.int (swjS S t (nI j)))) args s 0 0 (fun _ => False)) (F0 m 18 ls []) := by
    intro n
    induction n with
    | zero => intro i18 y3_18 ey3_18 hi_i18 hn_i18; exact absurd hn_i18 (by omega)
    | succ n ih_i18 =>
      intro i18 y3_18 ey3_18 hi_i18 hn_i18 ls hl
      subst ey3_18
      refine lv_iload hx hb dX3_scoreWithJokerOn_18 (lv_at hl 0 rfl) ?_
      refine lv_bipush (v := 8) hx hb dX3_scoreWithJokerOn_20 (by decide) ?_
      refine lv_icmp_ge (tgt := 72) hx hb dX3_scoreWithJokerOn_22 (by decide) (fun c_22 => ?_) (fun c_22 => ?_)
      · skip
        have e_22 : i18 = 8 := q_ge_T (by omega) hi_i18 c_22
        subst e_22
        refine lv_iload_n hx hb dX3_scoreWithJokerOn_72 rfl (lv_at hl 1 rfl) ?_
        exact q_iret hx hb hr hlk dX3_scoreWithJokerOn_73 (rfl)
      · skip
        have lt_i18 : i18 < 8 := q_ge_F (by omega) hi_i18 c_22
        refine lv_aload_n hx hb dX3_scoreWithJokerOn_25 rfl (lv_at hl 2 rfl) ?_
        refine lv_iload_n hx hb dX3_scoreWithJokerOn_26 rfl (lv_at hl 3 rfl) ?_
        refine lv_iload hx hb dX3_scoreWithJokerOn_27 (lv_at hl 0 rfl) ?_
        refine q_V (As := [.int (nI t), .int (nI i18)]) (rest := []) ⟨hx, hb, hml, hown, hts⟩ (c_X3_isTold l g q S t i18 (by omega) (by omega)) (cwV 2 hts gX3_scoreWithJokerOn_X3_isTold rfl rfl rfl (by decide +kernel) ⟨Nat.le_of_ble_eq_true rfl, Nat.le_of_ble_eq_true rfl⟩) q_B_blind (va_recv hK hP (ci := 2) (q0 := 0) rfl rfl) (q_B_of hP hK hN) rfl hl.1 rfl (Nat.le_of_ble_eq_true rfl) dX3_scoreWithJokerOn_29 (Nat.zero_le _) (Nat.zero_le _) ?_
        refine lv_if_eq (tgt := 45) hx hb dX3_scoreWithJokerOn_32 (by decide) (fun c_32 => ?_) (fun c_32 => ?_)
        · skip
          have c_32 : (tldS S t i18) = false := bI_eq c_32
          refine lv_iconst (v := 0) hx hb dX3_scoreWithJokerOn_45 (by decide) ?_
          refine lv_istore (lv' := [(5, .int 0), (4, .int (nI i18)), (3, .int (q_acc (fineS S t) (wjS S t (nI j)) i18)), (0, .ref (q 0)), (1, .int (nI t)), (2, .int (nI j))]) hx hb dX3_scoreWithJokerOn_46 hl (by decide) rfl (fun ls hl => ?_)
          refine lv_iload_n hx hb dX3_scoreWithJokerOn_48 rfl (lv_at hl 2 rfl) ?_
          refine lv_iload hx hb dX3_scoreWithJokerOn_49 (lv_at hl 1 rfl) ?_
          refine lv_iload_n hx hb dX3_scoreWithJokerOn_51 rfl (lv_at hl 5 rfl) ?_
          refine lv_icmp_ne (tgt := 62) hx hb dX3_scoreWithJokerOn_52 (by decide) (fun c_52 => ?_) (fun c_52 => ?_)
          · skip
            refine lv_iload hx hb dX3_scoreWithJokerOn_62 (lv_at hl 0 rfl) ?_
            refine lv_iadd hx hb dX3_scoreWithJokerOn_64 ?_
            refine lv_istore_n (lv' := [(3, .int ((q_acc (fineS S t) (wjS S t (nI j)) i18) + 0)), (5, .int 0), (4, .int (nI i18)), (0, .ref (q 0)), (1, .int (nI t)), (2, .int (nI j))]) hx hb dX3_scoreWithJokerOn_65 rfl hl (by decide) rfl (fun ls hl => ?_)
            refine lv_iinc (v := nI (i18 + 1)) (lv' := [(4, .int (nI (i18 + 1))), (3, .int ((q_acc (fineS S t) (wjS S t (nI j)) i18) + 0)), (5, .int 0), (0, .ref (q 0)), (1, .int (nI t)), (2, .int (nI j))]) hx hb dX3_scoreWithJokerOn_66 hl (k := 2) rfl (nI_1 _) (by decide) rfl (fun ls hl => ?_)
            refine lv_goto (tgt := 18) hx hb dX3_scoreWithJokerOn_69 (by decide) ?_
            exact ih_i18 (i18 + 1) ((q_acc (fineS S t) (wjS S t (nI j)) i18) + 0) (by first | rfl | simp [q_acc, q_or, q_cnt, q_any, nI_1, wjS, c_32, c_52]) lt_i18 (by omega) ls (lv_sub hl [0, 1, 3, 4, 5] rfl)
          · skip
            refine lv_iconst (v := 2) hx hb dX3_scoreWithJokerOn_55 (by decide) ?_
            refine lv_iload hx hb dX3_scoreWithJokerOn_56 (lv_at hl 0 rfl) ?_
            refine lv_imul hx hb dX3_scoreWithJokerOn_58 ?_
            refine lv_goto (tgt := 64) hx hb dX3_scoreWithJokerOn_59 (by decide) ?_
            refine lv_iadd hx hb dX3_scoreWithJokerOn_64 ?_
            refine lv_istore_n (lv' := [(3, .int ((q_acc (fineS S t) (wjS S t (nI j)) i18) + (2 * 0))), (5, .int 0), (4, .int (nI i18)), (0, .ref (q 0)), (1, .int (nI t)), (2, .int (nI j))]) hx hb dX3_scoreWithJokerOn_65 rfl hl (by decide) rfl (fun ls hl => ?_)
            refine lv_iinc (v := nI (i18 + 1)) (lv' := [(4, .int (nI (i18 + 1))), (3, .int ((q_acc (fineS S t) (wjS S t (nI j)) i18) + (2 * 0))), (5, .int 0), (0, .ref (q 0)), (1, .int (nI t)), (2, .int (nI j))]) hx hb dX3_scoreWithJokerOn_66 hl (k := 2) rfl (nI_1 _) (by decide) rfl (fun ls hl => ?_)
            refine lv_goto (tgt := 18) hx hb dX3_scoreWithJokerOn_69 (by decide) ?_
            exact ih_i18 (i18 + 1) ((q_acc (fineS S t) (wjS S t (nI j)) i18) + (2 * 0)) (by first | rfl | simp [q_acc, q_or, q_cnt, q_any, nI_1, wjS, c_32, c_52]) lt_i18 (by omega) ls (lv_sub hl [0, 1, 3, 4, 5] rfl)
        · skip
          have c_32 : (tldS S t i18) = true := bI_ne c_32
          refine lv_aload_n hx hb dX3_scoreWithJokerOn_35 rfl (lv_at hl 2 rfl) ?_
          refine lv_iload_n hx hb dX3_scoreWithJokerOn_36 rfl (lv_at hl 3 rfl) ?_
          refine lv_iload hx hb dX3_scoreWithJokerOn_37 (lv_at hl 0 rfl) ?_
          refine q_V (As := [.int (nI t), .int (nI i18)]) (rest := []) ⟨hx, hb, hml, hown, hts⟩ (c_X3_markOf l g q S t i18 (by omega) (by omega)) (cwV 2 hts gX3_scoreWithJokerOn_X3_markOf rfl rfl rfl (by decide +kernel) ⟨Nat.le_of_ble_eq_true rfl, Nat.le_of_ble_eq_true rfl⟩) q_B_blind (va_recv hK hP (ci := 2) (q0 := 0) rfl rfl) (q_B_of hP hK hN) rfl hl.1 rfl (Nat.le_of_ble_eq_true rfl) dX3_scoreWithJokerOn_39 (Nat.zero_le _) (Nat.zero_le _) ?_
          refine lv_goto (tgt := 46) hx hb dX3_scoreWithJokerOn_42 (by decide) ?_
          refine lv_istore (lv' := [(5, .int (s_mar S (t * 8 + i18))), (4, .int (nI i18)), (3, .int (q_acc (fineS S t) (wjS S t (nI j)) i18)), (0, .ref (q 0)), (1, .int (nI t)), (2, .int (nI j))]) hx hb dX3_scoreWithJokerOn_46 hl (by decide) rfl (fun ls hl => ?_)
          refine lv_iload_n hx hb dX3_scoreWithJokerOn_48 rfl (lv_at hl 2 rfl) ?_
          refine lv_iload hx hb dX3_scoreWithJokerOn_49 (lv_at hl 1 rfl) ?_
          refine lv_iload_n hx hb dX3_scoreWithJokerOn_51 rfl (lv_at hl 5 rfl) ?_
          refine lv_icmp_ne (tgt := 62) hx hb dX3_scoreWithJokerOn_52 (by decide) (fun c_52 => ?_) (fun c_52 => ?_)
          · skip
            refine lv_iload hx hb dX3_scoreWithJokerOn_62 (lv_at hl 0 rfl) ?_
            refine lv_iadd hx hb dX3_scoreWithJokerOn_64 ?_
            refine lv_istore_n (lv' := [(3, .int ((q_acc (fineS S t) (wjS S t (nI j)) i18) + (s_mar S (t * 8 + i18)))), (5, .int (s_mar S (t * 8 + i18))), (4, .int (nI i18)), (0, .ref (q 0)), (1, .int (nI t)), (2, .int (nI j))]) hx hb dX3_scoreWithJokerOn_65 rfl hl (by decide) rfl (fun ls hl => ?_)
            refine lv_iinc (v := nI (i18 + 1)) (lv' := [(4, .int (nI (i18 + 1))), (3, .int ((q_acc (fineS S t) (wjS S t (nI j)) i18) + (s_mar S (t * 8 + i18)))), (5, .int (s_mar S (t * 8 + i18))), (0, .ref (q 0)), (1, .int (nI t)), (2, .int (nI j))]) hx hb dX3_scoreWithJokerOn_66 hl (k := 2) rfl (nI_1 _) (by decide) rfl (fun ls hl => ?_)
            refine lv_goto (tgt := 18) hx hb dX3_scoreWithJokerOn_69 (by decide) ?_
            exact ih_i18 (i18 + 1) ((q_acc (fineS S t) (wjS S t (nI j)) i18) + (s_mar S (t * 8 + i18))) (by first | rfl | simp [q_acc, q_or, q_cnt, q_any, nI_1, wjS, c_32, c_52]) lt_i18 (by omega) ls (lv_sub hl [0, 1, 3, 4, 5] rfl)
          · skip
            refine lv_iconst (v := 2) hx hb dX3_scoreWithJokerOn_55 (by decide) ?_
            refine lv_iload hx hb dX3_scoreWithJokerOn_56 (lv_at hl 0 rfl) ?_
            refine lv_imul hx hb dX3_scoreWithJokerOn_58 ?_
            refine lv_goto (tgt := 64) hx hb dX3_scoreWithJokerOn_59 (by decide) ?_
            refine lv_iadd hx hb dX3_scoreWithJokerOn_64 ?_
            refine lv_istore_n (lv' := [(3, .int ((q_acc (fineS S t) (wjS S t (nI j)) i18) + (2 * (s_mar S (t * 8 + i18))))), (5, .int (s_mar S (t * 8 + i18))), (4, .int (nI i18)), (0, .ref (q 0)), (1, .int (nI t)), (2, .int (nI j))]) hx hb dX3_scoreWithJokerOn_65 rfl hl (by decide) rfl (fun ls hl => ?_)
            refine lv_iinc (v := nI (i18 + 1)) (lv' := [(4, .int (nI (i18 + 1))), (3, .int ((q_acc (fineS S t) (wjS S t (nI j)) i18) + (2 * (s_mar S (t * 8 + i18))))), (5, .int (s_mar S (t * 8 + i18))), (0, .ref (q 0)), (1, .int (nI t)), (2, .int (nI j))]) hx hb dX3_scoreWithJokerOn_66 hl (k := 2) rfl (nI_1 _) (by decide) rfl (fun ls hl => ?_)
            refine lv_goto (tgt := 18) hx hb dX3_scoreWithJokerOn_69 (by decide) ?_
            exact ih_i18 (i18 + 1) ((q_acc (fineS S t) (wjS S t (nI j)) i18) + (2 * (s_mar S (t * 8 + i18)))) (by first | rfl | simp [q_acc, q_or, q_cnt, q_any, nI_1, wjS, c_32, c_52]) lt_i18 (by omega) ls (lv_sub hl [0, 1, 3, 4, 5] rfl)
  exact L_18 (8 + 1) 0 ((-(s_set S 3)) * (s_fin S t)) (rfl) (Nat.zero_le _) (by omega) ls (lv_sub hl [0, 1, 2, 3, 4] rfl)

set_option maxHeartbeats 4000000 in
set_option maxRecDepth 100000 in
theorem c_X3_bestRound (l : Launch) (g : q_G) (q : Nat → Nat) (S : q_St) (t : Nat) (h1_ : t < 10) : q_PM l yX3_bestRound wsX3_bestRound { frames := 4, cells := 0, slots := 0, locals := 90 } [.ref (q 0), .int (nI t)] (q_B g (q_stW g q S)) (.int (nI (besS S t 8))) := by
  refine q_pm (cc := cX3_bestRound) (maxL := 4) (ret := (some .int)) (by decide) rfl (Nat.le_of_ble_eq_true rfl) ?_
  intro p e s m args below meth c ls hx hb hml hown hts hr hlk hB hl
  obtain ⟨hP, hK, hN⟩ := hB
  have hl : lv_has ls 4 [(0, .ref (q 0)), (1, .int (nI t))] := hl
  refine lv_iconst (v := 0) hx hb dX3_bestRound_0 (by decide) ?_
  refine lv_istore_n (lv' := [(2, .int 0), (0, .ref (q 0)), (1, .int (nI t))]) hx hb dX3_bestRound_1 rfl hl (by decide) rfl (fun ls hl => ?_)
  refine lv_iconst (v := 1) hx hb dX3_bestRound_2 (by decide) ?_
  refine lv_istore_n (lv' := [(3, .int 1), (2, .int 0), (0, .ref (q 0)), (1, .int (nI t))]) hx hb dX3_bestRound_3 rfl hl (by decide) rfl (fun ls hl => ?_)
  have L_4 : ∀ (n i4 : Nat) (y2_4 : Int32), y2_4 = nI (besS S t i4) → 1 ≤ i4 → i4 ≤ 8 → 8 < i4 + n → ∀ ls : Array Slot, lv_has ls 4 [(3, .int (nI i4)), (2, .int y2_4), (0, .ref (q 0)), (1, .int (nI t))] → W p l e { frames := 4, cells := 0, slots := 0, locals := 90 } s m args below meth c s.heap [] 0 0 (MQ below (k2_QcV (.int (nI (besS S t 8)))) args s 0 0 (fun _ => False)) (F0 m 4 ls []) := by
    intro n
    induction n with
    | zero => intro i4 y2_4 ey2_4 hs_i4 hi_i4 hn_i4; exact absurd hn_i4 (by omega)
    | succ n ih_i4 =>
      intro i4 y2_4 ey2_4 hs_i4 hi_i4 hn_i4 ls hl
      subst ey2_4
      refine lv_iload_n hx hb dX3_bestRound_4 rfl (lv_at hl 0 rfl) ?_
      refine lv_bipush (v := 8) hx hb dX3_bestRound_5 (by decide) ?_
      refine lv_icmp_ge (tgt := 33) hx hb dX3_bestRound_7 (by decide) (fun c_7 => ?_) (fun c_7 => ?_)
      · skip
        have e_7 : i4 = 8 := q_ge_T (by omega) hi_i4 c_7
        subst e_7
        refine lv_iload_n hx hb dX3_bestRound_33 rfl (lv_at hl 1 rfl) ?_
        exact q_iret hx hb hr hlk dX3_bestRound_34 (rfl)
      · skip
        have lt_i4 : i4 < 8 := q_ge_F (by omega) hi_i4 c_7
        refine lv_aload_n hx hb dX3_bestRound_10 rfl (lv_at hl 2 rfl) ?_
        refine lv_iload_n hx hb dX3_bestRound_11 rfl (lv_at hl 3 rfl) ?_
        refine lv_iload_n hx hb dX3_bestRound_12 rfl (lv_at hl 0 rfl) ?_
        refine q_V (As := [.int (nI t), .int (nI i4)]) (rest := []) ⟨hx, hb, hml, hown, hts⟩ (c_X3_scoreWithJokerOn l g q S t i4 (by omega)) (cwV 2 hts gX3_bestRound_X3_scoreWithJokerOn rfl rfl rfl (by decide +kernel) ⟨Nat.le_of_ble_eq_true rfl, Nat.le_of_ble_eq_true rfl⟩) q_B_blind (va_recv hK hP (ci := 2) (q0 := 0) rfl rfl) (q_B_of hP hK hN) rfl hl.1 rfl (Nat.le_of_ble_eq_true rfl) dX3_bestRound_13 (Nat.zero_le _) (Nat.zero_le _) ?_
        refine lv_aload_n hx hb dX3_bestRound_16 rfl (lv_at hl 2 rfl) ?_
        refine lv_iload_n hx hb dX3_bestRound_17 rfl (lv_at hl 3 rfl) ?_
        refine lv_iload_n hx hb dX3_bestRound_18 rfl (lv_at hl 1 rfl) ?_
        refine q_V (As := [.int (nI t), .int (nI (besS S t i4))]) (rest := [.int (swjS S t (nI i4))]) ⟨hx, hb, hml, hown, hts⟩ (c_X3_scoreWithJokerOn l g q S t (besS S t i4) (by omega)) (cwV 2 hts gX3_bestRound_X3_scoreWithJokerOn rfl rfl rfl (by decide +kernel) ⟨Nat.le_of_ble_eq_true rfl, Nat.le_of_ble_eq_true rfl⟩) q_B_blind (va_recv hK hP (ci := 2) (q0 := 0) rfl rfl) (q_B_of hP hK hN) rfl hl.1 rfl (Nat.le_of_ble_eq_true rfl) dX3_bestRound_19 (Nat.zero_le _) (Nat.zero_le _) ?_
        refine lv_icmp_le (tgt := 27) hx hb dX3_bestRound_22 (by decide) (fun c_22 => ?_) (fun c_22 => ?_)
        · skip
          refine lv_iinc (v := nI (i4 + 1)) (lv' := [(3, .int (nI (i4 + 1))), (2, .int (nI (besS S t i4))), (0, .ref (q 0)), (1, .int (nI t))]) hx hb dX3_bestRound_27 hl (k := 0) rfl (nI_1 _) (by decide) rfl (fun ls hl => ?_)
          refine lv_goto (tgt := 4) hx hb dX3_bestRound_30 (by decide) ?_
          exact ih_i4 (i4 + 1) (nI (besS S t i4)) (by simp [besS, c_22]) (by omega) lt_i4 (by omega) ls (lv_sub hl [0, 1, 2, 3] rfl)
        · skip
          refine lv_iload_n hx hb dX3_bestRound_25 rfl (lv_at hl 0 rfl) ?_
          refine lv_istore_n (lv' := [(2, .int (nI i4)), (3, .int (nI i4)), (0, .ref (q 0)), (1, .int (nI t))]) hx hb dX3_bestRound_26 rfl hl (by decide) rfl (fun ls hl => ?_)
          refine lv_iinc (v := nI (i4 + 1)) (lv' := [(3, .int (nI (i4 + 1))), (2, .int (nI i4)), (0, .ref (q 0)), (1, .int (nI t))]) hx hb dX3_bestRound_27 hl (k := 1) rfl (nI_1 _) (by decide) rfl (fun ls hl => ?_)
          refine lv_goto (tgt := 4) hx hb dX3_bestRound_30 (by decide) ?_
          exact ih_i4 (i4 + 1) (nI i4) (by simp [besS, c_22]) (by omega) lt_i4 (by omega) ls (lv_sub hl [0, 1, 2, 3] rfl)
  exact L_4 (8 + 1) 1 0 (by simp [besS]; rfl) (Nat.le_refl _) (by omega) (by omega) ls (lv_sub hl [0, 1, 2, 3] rfl)

set_option maxHeartbeats 4000000 in
set_option maxRecDepth 100000 in
theorem c_X3_canHandIn (l : Launch) (g : q_G) (q : Nat → Nat) (S : q_St) (t : Nat) (r : Nat) (h1_ : t < 10) (h2_ : r < 8) : q_PM l yX3_canHandIn wsX3_canHandIn { frames := 2, cells := 0, slots := 0, locals := 43 } [.ref (q 0), .int (nI t), .int (nI r)] (q_B g (q_stW g q S)) (.int (bI (chiS S t r))) := by
  refine q_pm (cc := cX3_canHandIn) (maxL := 3) (ret := (some .boolean)) (by decide) rfl (Nat.le_of_ble_eq_true rfl) ?_
  intro p e s m args below meth c ls hx hb hml hown hts hr hlk hB hl
  obtain ⟨hP, hK, hN⟩ := hB
  have hl : lv_has ls 3 [(0, .ref (q 0)), (1, .int (nI t)), (2, .int (nI r))] := hl
  refine lv_aload_n hx hb dX3_canHandIn_0 rfl (lv_at hl 0 rfl) ?_
  refine lv_iload_n hx hb dX3_canHandIn_1 rfl (lv_at hl 2 rfl) ?_
  refine q_V (As := [.int (nI r)]) (rest := []) ⟨hx, hb, hml, hown, hts⟩ (c_X3_isOpen l g q S r (by omega)) (cwV 1 hts gX3_canHandIn_X3_isOpen rfl rfl rfl (by decide +kernel) ⟨Nat.le_of_ble_eq_true rfl, Nat.le_of_ble_eq_true rfl⟩) q_B_blind (va_recv hK hP (ci := 2) (q0 := 0) rfl rfl) (q_B_of hP hK hN) rfl hl.1 rfl (Nat.le_of_ble_eq_true rfl) dX3_canHandIn_2 (Nat.zero_le _) (Nat.zero_le _) ?_
  refine lv_if_eq (tgt := 21) hx hb dX3_canHandIn_5 (by decide) (fun c_5 => ?_) (fun c_5 => ?_)
  · skip
    have c_5 : (isOp S r) = false := bI_eq c_5
    refine lv_iconst (v := 0) hx hb dX3_canHandIn_21 (by decide) ?_
    exact q_zret hx hb hr hlk dX3_canHandIn_22 (by first | rfl | simp [chiS, bI, c_5])
  · skip
    have c_5 : (isOp S r) = true := bI_ne c_5
    refine lv_aload_n hx hb dX3_canHandIn_8 rfl (lv_at hl 0 rfl) ?_
    refine lv_iload_n hx hb dX3_canHandIn_9 rfl (lv_at hl 1 rfl) ?_
    refine lv_iload_n hx hb dX3_canHandIn_10 rfl (lv_at hl 2 rfl) ?_
    refine q_V (As := [.int (nI t), .int (nI r)]) (rest := []) ⟨hx, hb, hml, hown, hts⟩ (c_X3_hasSheet l g q S t r (by omega) (by omega)) (cwV 2 hts gX3_canHandIn_X3_hasSheet rfl rfl rfl (by decide +kernel) ⟨Nat.le_of_ble_eq_true rfl, Nat.le_of_ble_eq_true rfl⟩) q_B_blind (va_recv hK hP (ci := 2) (q0 := 0) rfl rfl) (q_B_of hP hK hN) rfl hl.1 rfl (Nat.le_of_ble_eq_true rfl) dX3_canHandIn_11 (Nat.zero_le _) (Nat.zero_le _) ?_
    refine lv_if_ne (tgt := 21) hx hb dX3_canHandIn_14 (by decide) (fun c_14 => ?_) (fun c_14 => ?_)
    · skip
      have c_14 : (hasS S t r) = true := bI_ne c_14
      refine lv_iconst (v := 0) hx hb dX3_canHandIn_21 (by decide) ?_
      exact q_zret hx hb hr hlk dX3_canHandIn_22 (by first | rfl | simp [chiS, bI, c_5, c_14])
    · skip
      have c_14 : (hasS S t r) = false := bI_eq c_14
      refine lv_iconst (v := 1) hx hb dX3_canHandIn_17 (by decide) ?_
      refine lv_goto (tgt := 22) hx hb dX3_canHandIn_18 (by decide) ?_
      exact q_zret hx hb hr hlk dX3_canHandIn_22 (by first | rfl | simp [chiS, bI, c_5, c_14])

set_option maxHeartbeats 4000000 in
set_option maxRecDepth 100000 in
theorem c_X3_greatestMark (l : Launch) (g : q_G) (q : Nat → Nat) (S : q_St) (t : Nat) (r : Nat) (h1_ : t < 10) (h2_ : r < 8) : q_PM l yX3_greatestMark wsX3_greatestMark { frames := 3, cells := 0, slots := 0, locals := 65 } [.ref (q 0), .int (nI t), .int (nI r)] (q_B g (q_stW g q S)) (.int (gmkS S t r)) := by
  refine q_pm (cc := cX3_greatestMark) (maxL := 3) (ret := (some .int)) (by decide) rfl (Nat.le_of_ble_eq_true rfl) ?_
  intro p e s m args below meth c ls hx hb hml hown hts hr hlk hB hl
  obtain ⟨hP, hK, hN⟩ := hB
  have hl : lv_has ls 3 [(0, .ref (q 0)), (1, .int (nI t)), (2, .int (nI r))] := hl
  refine lv_aload_n hx hb dX3_greatestMark_0 rfl (lv_at hl 0 rfl) ?_
  refine lv_iload_n hx hb dX3_greatestMark_1 rfl (lv_at hl 1 rfl) ?_
  refine lv_iload_n hx hb dX3_greatestMark_2 rfl (lv_at hl 2 rfl) ?_
  refine q_V (As := [.int (nI t), .int (nI r)]) (rest := []) ⟨hx, hb, hml, hown, hts⟩ (c_X3_isTold l g q S t r (by omega) (by omega)) (cwV 2 hts gX3_greatestMark_X3_isTold rfl rfl rfl (by decide +kernel) ⟨Nat.le_of_ble_eq_true rfl, Nat.le_of_ble_eq_true rfl⟩) q_B_blind (va_recv hK hP (ci := 2) (q0 := 0) rfl rfl) (q_B_of hP hK hN) rfl hl.1 rfl (Nat.le_of_ble_eq_true rfl) dX3_greatestMark_3 (Nat.zero_le _) (Nat.zero_le _) ?_
  refine lv_if_eq (tgt := 16) hx hb dX3_greatestMark_6 (by decide) (fun c_6 => ?_) (fun c_6 => ?_)
  · skip
    have c_6 : (tldS S t r) = false := bI_eq c_6
    refine lv_aload_n hx hb dX3_greatestMark_16 rfl (lv_at hl 0 rfl) ?_
    refine lv_iload_n hx hb dX3_greatestMark_17 rfl (lv_at hl 1 rfl) ?_
    refine lv_iload_n hx hb dX3_greatestMark_18 rfl (lv_at hl 2 rfl) ?_
    refine q_V (As := [.int (nI t), .int (nI r)]) (rest := []) ⟨hx, hb, hml, hown, hts⟩ (c_X3_hasSheet l g q S t r (by omega) (by omega)) (cwV 2 hts gX3_greatestMark_X3_hasSheet rfl rfl rfl (by decide +kernel) ⟨Nat.le_of_ble_eq_true rfl, Nat.le_of_ble_eq_true rfl⟩) q_B_blind (va_recv hK hP (ci := 2) (q0 := 0) rfl rfl) (q_B_of hP hK hN) rfl hl.1 rfl (Nat.le_of_ble_eq_true rfl) dX3_greatestMark_19 (Nat.zero_le _) (Nat.zero_le _) ?_
    refine lv_if_ne (tgt := 33) hx hb dX3_greatestMark_22 (by decide) (fun c_22 => ?_) (fun c_22 => ?_)
    · skip
      have c_22 : (hasS S t r) = true := bI_ne c_22
      refine lv_bipush (v := 10) hx hb dX3_greatestMark_33 (by decide) ?_
      refine lv_goto (tgt := 39) hx hb dX3_greatestMark_35 (by decide) ?_
      exact q_iret hx hb hr hlk dX3_greatestMark_39 (by first | rfl | simp [gmkS, c_6, c_22])
    · skip
      have c_22 : (hasS S t r) = false := bI_eq c_22
      refine lv_aload_n hx hb dX3_greatestMark_25 rfl (lv_at hl 0 rfl) ?_
      refine lv_iload_n hx hb dX3_greatestMark_26 rfl (lv_at hl 2 rfl) ?_
      refine q_V (As := [.int (nI r)]) (rest := []) ⟨hx, hb, hml, hown, hts⟩ (c_X3_isOpen l g q S r (by omega)) (cwV 1 hts gX3_greatestMark_X3_isOpen rfl rfl rfl (by decide +kernel) ⟨Nat.le_of_ble_eq_true rfl, Nat.le_of_ble_eq_true rfl⟩) q_B_blind (va_recv hK hP (ci := 2) (q0 := 0) rfl rfl) (q_B_of hP hK hN) rfl hl.1 rfl (Nat.le_of_ble_eq_true rfl) dX3_greatestMark_27 (Nat.zero_le _) (Nat.zero_le _) ?_
      refine lv_if_eq (tgt := 38) hx hb dX3_greatestMark_30 (by decide) (fun c_30 => ?_) (fun c_30 => ?_)
      · skip
        have c_30 : (isOp S r) = false := bI_eq c_30
        refine lv_iconst (v := 0) hx hb dX3_greatestMark_38 (by decide) ?_
        exact q_iret hx hb hr hlk dX3_greatestMark_39 (by first | rfl | simp [gmkS, c_6, c_22, c_30])
      · skip
        have c_30 : (isOp S r) = true := bI_ne c_30
        refine lv_bipush (v := 10) hx hb dX3_greatestMark_33 (by decide) ?_
        refine lv_goto (tgt := 39) hx hb dX3_greatestMark_35 (by decide) ?_
        exact q_iret hx hb hr hlk dX3_greatestMark_39 (by first | rfl | simp [gmkS, c_6, c_22, c_30])
  · skip
    have c_6 : (tldS S t r) = true := bI_ne c_6
    refine lv_aload_n hx hb dX3_greatestMark_9 rfl (lv_at hl 0 rfl) ?_
    refine lv_iload_n hx hb dX3_greatestMark_10 rfl (lv_at hl 1 rfl) ?_
    refine lv_iload_n hx hb dX3_greatestMark_11 rfl (lv_at hl 2 rfl) ?_
    refine q_V (As := [.int (nI t), .int (nI r)]) (rest := []) ⟨hx, hb, hml, hown, hts⟩ (c_X3_markOf l g q S t r (by omega) (by omega)) (cwV 2 hts gX3_greatestMark_X3_markOf rfl rfl rfl (by decide +kernel) ⟨Nat.le_of_ble_eq_true rfl, Nat.le_of_ble_eq_true rfl⟩) q_B_blind (va_recv hK hP (ci := 2) (q0 := 0) rfl rfl) (q_B_of hP hK hN) rfl hl.1 rfl (Nat.le_of_ble_eq_true rfl) dX3_greatestMark_12 (Nat.zero_le _) (Nat.zero_le _) ?_
    exact q_iret hx hb hr hlk dX3_greatestMark_15 (by first | rfl | simp [gmkS, c_6])

set_option maxHeartbeats 4000000 in
set_option maxRecDepth 100000 in
theorem c_X3_greatestScore (l : Launch) (g : q_G) (q : Nat → Nat) (S : q_St) (t : Nat) (h1_ : t < 10) : q_PM l yX3_greatestScore wsX3_greatestScore { frames := 4, cells := 0, slots := 0, locals := 87 } [.ref (q 0), .int (nI t)] (q_B g (q_stW g q S)) (.int (gscS S t)) := by
  refine q_pm (cc := cX3_greatestScore) (maxL := 5) (ret := (some .int)) (by decide) rfl (Nat.le_of_ble_eq_true rfl) ?_
  intro p e s m args below meth c ls hx hb hml hown hts hr hlk hB hl
  obtain ⟨hP, hK, hN⟩ := hB
  have fl_9 := hts (.fieldLink RX3 9 "PubQuizzes$State" "settings" "[I") (by decide +kernel)
  have fl_18 := hts (.fieldLink RX3 18 "PubQuizzes$State" "jokers" "[I") (by decide +kernel)
  have fl_21 := hts (.fieldLink RX3 21 "PubQuizzes$State" "fines" "[I") (by decide +kernel)
  have hi_X3 : ∀ w ∈ u_ws RX3 TX3 12, w ∈ wsX3_greatestScore := by decide +kernel
  have hl : lv_has ls 5 [(0, .ref (q 0)), (1, .int (nI t))] := hl
  refine lv_aload_n hx hb dX3_greatestScore_0 rfl (lv_at hl 0 rfl) ?_
  refine va_get (D := g.1) (ci := 2) (v := .ref (q 1)) (C := RX3) (T := TX3) (N := 12) hx hb hts hi_X3 hown hK hP 0 rfl rfl 0 (by decide) fl_9 (fun _ h9 => h9) rfl dX3_greatestScore_1 ?_
  refine lv_iconst (v := 3) hx hb dX3_greatestScore_4 (by decide) ?_
  refine q_iald (j := 3) hx hb hK hP 1 0 rfl rfl (by omega) (by decide) dX3_greatestScore_5 ?_
  refine lv_ineg hx hb dX3_greatestScore_6 ?_
  refine lv_aload_n hx hb dX3_greatestScore_7 rfl (lv_at hl 0 rfl) ?_
  refine va_get (D := g.1) (ci := 2) (v := .ref (q 4)) (C := RX3) (T := TX3) (N := 12) hx hb hts hi_X3 hown hK hP 0 rfl rfl 3 (by decide) fl_21 (fun _ h9 => h9) rfl dX3_greatestScore_8 ?_
  refine lv_iload_n hx hb dX3_greatestScore_11 rfl (lv_at hl 1 rfl) ?_
  refine q_iald (j := t) hx hb hK hP 4 0 rfl rfl (by omega) (by decide) dX3_greatestScore_12 ?_
  refine lv_imul hx hb dX3_greatestScore_13 ?_
  refine lv_istore_n (lv' := [(2, .int ((-(s_set S 3)) * (s_fin S t))), (0, .ref (q 0)), (1, .int (nI t))]) hx hb dX3_greatestScore_14 rfl hl (by decide) rfl (fun ls hl => ?_)
  refine lv_iconst (v := 0) hx hb dX3_greatestScore_15 (by decide) ?_
  refine lv_istore_n (lv' := [(3, .int 0), (2, .int ((-(s_set S 3)) * (s_fin S t))), (0, .ref (q 0)), (1, .int (nI t))]) hx hb dX3_greatestScore_16 rfl hl (by decide) rfl (fun ls hl => ?_)
  refine lv_iconst (v := 0) hx hb dX3_greatestScore_17 (by decide) ?_
  refine lv_istore (lv' := [(4, .int 0), (3, .int 0), (2, .int ((-(s_set S 3)) * (s_fin S t))), (0, .ref (q 0)), (1, .int (nI t))]) hx hb dX3_greatestScore_18 hl (by decide) rfl (fun ls hl => ?_)
  have L_20 : ∀ (n i20 : Nat) (y3_20 : Int32) (y2_20 : Int32), y3_20 = bI (q_any (cpj1 S t) i20) → y2_20 = q_acc (fineS S t) (fun r => withJ S t r (gmkS S t r)) i20 → i20 ≤ 8 → 8 < i20 + n → ∀ ls : Array Slot, lv_has ls 5 [(4, .int (nI i20)), (3, .int y3_20), (2, .int y2_20), (0, .ref (q 0)), (1, .int (nI t))] → W p l e { frames := 4, cells := 0, slots := 0, locals := 87 } s m args below meth c s.heap [] 0 0 (MQ below (k2_QcV (.int (gscS S t))) args s 0 0 (fun _ => False)) (F0 m 20 ls []) := by
    intro n
    induction n with
    | zero => intro i20 y3_20 y2_20 ey3_20 ey2_20 hi_i20 hn_i20; exact absurd hn_i20 (by omega)
    | succ n ih_i20 =>
      intro i20 y3_20 y2_20 ey3_20 ey2_20 hi_i20 hn_i20 ls hl
      subst ey3_20
      subst ey2_20
      refine lv_iload hx hb dX3_greatestScore_20 (lv_at hl 0 rfl) ?_
      refine lv_bipush (v := 8) hx hb dX3_greatestScore_22 (by decide) ?_
      refine lv_icmp_ge (tgt := 79) hx hb dX3_greatestScore_24 (by decide) (fun c_24 => ?_) (fun c_24 => ?_)
      · skip
        have e_24 : i20 = 8 := q_ge_T (by omega) hi_i20 c_24
        subst e_24
        refine lv_iload_n hx hb dX3_greatestScore_79 rfl (lv_at hl 1 rfl) ?_
        refine lv_if_eq (tgt := 90) hx hb dX3_greatestScore_80 (by decide) (fun c_80 => ?_) (fun c_80 => ?_)
        · skip
          have c_80 : (q_any (cpj1 S t) 8) = false := bI_eq c_80
          refine lv_iload_n hx hb dX3_greatestScore_90 rfl (lv_at hl 2 rfl) ?_
          exact q_iret hx hb hr hlk dX3_greatestScore_91 (by first | rfl | simp [gscS, c_80])
        · skip
          have c_80 : (q_any (cpj1 S t) 8) = true := bI_ne c_80
          refine lv_iload_n hx hb dX3_greatestScore_83 rfl (lv_at hl 2 rfl) ?_
          refine lv_bipush (v := 10) hx hb dX3_greatestScore_84 (by decide) ?_
          refine lv_iadd hx hb dX3_greatestScore_86 ?_
          refine lv_goto (tgt := 91) hx hb dX3_greatestScore_87 (by decide) ?_
          exact q_iret hx hb hr hlk dX3_greatestScore_91 (by first | rfl | simp [gscS, c_80])
      · skip
        have lt_i20 : i20 < 8 := q_ge_F (by omega) hi_i20 c_24
        refine lv_iload_n hx hb dX3_greatestScore_27 rfl (lv_at hl 2 rfl) ?_
        refine lv_aload_n hx hb dX3_greatestScore_28 rfl (lv_at hl 3 rfl) ?_
        refine lv_iload_n hx hb dX3_greatestScore_29 rfl (lv_at hl 4 rfl) ?_
        refine lv_iload hx hb dX3_greatestScore_30 (lv_at hl 0 rfl) ?_
        refine lv_aload_n hx hb dX3_greatestScore_32 rfl (lv_at hl 3 rfl) ?_
        refine lv_iload_n hx hb dX3_greatestScore_33 rfl (lv_at hl 4 rfl) ?_
        refine lv_iload hx hb dX3_greatestScore_34 (lv_at hl 0 rfl) ?_
        refine q_V (As := [.int (nI t), .int (nI i20)]) (rest := [.int (nI i20), .int (nI t), .ref (q 0), .int (q_acc (fineS S t) (fun r => withJ S t r (gmkS S t r)) i20)]) ⟨hx, hb, hml, hown, hts⟩ (c_X3_greatestMark l g q S t i20 (by omega) (by omega)) (cwV 2 hts gX3_greatestScore_X3_greatestMark rfl rfl rfl (by decide +kernel) ⟨Nat.le_of_ble_eq_true rfl, Nat.le_of_ble_eq_true rfl⟩) q_B_blind (va_recv hK hP (ci := 2) (q0 := 0) rfl rfl) (q_B_of hP hK hN) rfl hl.1 rfl (Nat.le_of_ble_eq_true rfl) dX3_greatestScore_36 (Nat.zero_le _) (Nat.zero_le _) ?_
        refine q_V (As := [.int (nI t), .int (nI i20), .int (gmkS S t i20)]) (rest := [.int (q_acc (fineS S t) (fun r => withJ S t r (gmkS S t r)) i20)]) ⟨hx, hb, hml, hown, hts⟩ (c_X3_withJoker l g q S t i20 (gmkS S t i20) (by omega)) (cwV 3 hts gX3_greatestScore_X3_withJoker rfl rfl rfl (by decide +kernel) ⟨Nat.le_of_ble_eq_true rfl, Nat.le_of_ble_eq_true rfl⟩) q_B_blind (va_recv hK hP (ci := 2) (q0 := 0) rfl rfl) (q_B_of hP hK hN) rfl hl.1 rfl (Nat.le_of_ble_eq_true rfl) dX3_greatestScore_39 (Nat.zero_le _) (Nat.zero_le _) ?_
        refine lv_iadd hx hb dX3_greatestScore_42 ?_
        refine lv_istore_n (lv' := [(2, .int ((q_acc (fineS S t) (fun r => withJ S t r (gmkS S t r)) i20) + (withJ S t i20 (gmkS S t i20)))), (4, .int (nI i20)), (3, .int (bI (q_any (cpj1 S t) i20))), (0, .ref (q 0)), (1, .int (nI t))]) hx hb dX3_greatestScore_43 rfl hl (by decide) rfl (fun ls hl => ?_)
        refine lv_iload_n hx hb dX3_greatestScore_44 rfl (lv_at hl 2 rfl) ?_
        refine lv_aload_n hx hb dX3_greatestScore_45 rfl (lv_at hl 3 rfl) ?_
        refine va_get (D := g.1) (ci := 2) (v := .ref (q 3)) (C := RX3) (T := TX3) (N := 12) hx hb hts hi_X3 hown hK hP 0 rfl rfl 2 (by decide) fl_18 (fun _ h9 => h9) rfl dX3_greatestScore_46 ?_
        refine lv_iload_n hx hb dX3_greatestScore_49 rfl (lv_at hl 4 rfl) ?_
        refine q_iald (j := t) hx hb hK hP 3 0 rfl rfl (by omega) (by decide) dX3_greatestScore_50 ?_
        refine lv_bipush (v := (-6)) hx hb dX3_greatestScore_51 (by decide) ?_
        refine lv_icmp_ne (tgt := 70) hx hb dX3_greatestScore_53 (by decide) (fun c_53 => ?_) (fun c_53 => ?_)
        · skip
          refine lv_iconst (v := 0) hx hb dX3_greatestScore_70 (by decide) ?_
          refine lv_ior hx hb dX3_greatestScore_71 ?_
          refine lv_istore_n (lv' := [(3, .int ((bI (q_any (cpj1 S t) i20)) ||| 0)), (2, .int ((q_acc (fineS S t) (fun r => withJ S t r (gmkS S t r)) i20) + (withJ S t i20 (gmkS S t i20)))), (4, .int (nI i20)), (0, .ref (q 0)), (1, .int (nI t))]) hx hb dX3_greatestScore_72 rfl hl (by decide) rfl (fun ls hl => ?_)
          refine lv_iinc (v := nI (i20 + 1)) (lv' := [(4, .int (nI (i20 + 1))), (3, .int ((bI (q_any (cpj1 S t) i20)) ||| 0)), (2, .int ((q_acc (fineS S t) (fun r => withJ S t r (gmkS S t r)) i20) + (withJ S t i20 (gmkS S t i20)))), (0, .ref (q 0)), (1, .int (nI t))]) hx hb dX3_greatestScore_73 hl (k := 2) rfl (nI_1 _) (by decide) rfl (fun ls hl => ?_)
          refine lv_goto (tgt := 20) hx hb dX3_greatestScore_76 (by decide) ?_
          exact ih_i20 (i20 + 1) ((bI (q_any (cpj1 S t) i20)) ||| 0) ((q_acc (fineS S t) (fun r => withJ S t r (gmkS S t r)) i20) + (withJ S t i20 (gmkS S t i20))) (by first | rfl | simp [q_acc, q_any, cpj1, bI_o1, bI_o0, bI_t, c_53]) (by first | rfl | simp [q_acc, q_any, cpj1, bI_o1, bI_o0, bI_t, c_53]) lt_i20 (by omega) ls (lv_sub hl [0, 1, 2, 3, 4] rfl)
        · skip
          refine lv_aload_n hx hb dX3_greatestScore_56 rfl (lv_at hl 3 rfl) ?_
          refine lv_iload_n hx hb dX3_greatestScore_57 rfl (lv_at hl 4 rfl) ?_
          refine lv_iload hx hb dX3_greatestScore_58 (lv_at hl 1 rfl) ?_
          refine q_V (As := [.int (nI t), .int (nI i20)]) (rest := [.int (bI (q_any (cpj1 S t) i20))]) ⟨hx, hb, hml, hown, hts⟩ (c_X3_canHandIn l g q S t i20 (by omega) (by omega)) (cwV 2 hts gX3_greatestScore_X3_canHandIn rfl rfl rfl (by decide +kernel) ⟨Nat.le_of_ble_eq_true rfl, Nat.le_of_ble_eq_true rfl⟩) q_B_blind (va_recv hK hP (ci := 2) (q0 := 0) rfl rfl) (q_B_of hP hK hN) rfl hl.1 rfl (Nat.le_of_ble_eq_true rfl) dX3_greatestScore_60 (Nat.zero_le _) (Nat.zero_le _) ?_
          refine lv_if_eq (tgt := 70) hx hb dX3_greatestScore_63 (by decide) (fun c_63 => ?_) (fun c_63 => ?_)
          · skip
            have c_63 : (chiS S t i20) = false := bI_eq c_63
            refine lv_iconst (v := 0) hx hb dX3_greatestScore_70 (by decide) ?_
            refine lv_ior hx hb dX3_greatestScore_71 ?_
            refine lv_istore_n (lv' := [(3, .int ((bI (q_any (cpj1 S t) i20)) ||| 0)), (2, .int ((q_acc (fineS S t) (fun r => withJ S t r (gmkS S t r)) i20) + (withJ S t i20 (gmkS S t i20)))), (4, .int (nI i20)), (0, .ref (q 0)), (1, .int (nI t))]) hx hb dX3_greatestScore_72 rfl hl (by decide) rfl (fun ls hl => ?_)
            refine lv_iinc (v := nI (i20 + 1)) (lv' := [(4, .int (nI (i20 + 1))), (3, .int ((bI (q_any (cpj1 S t) i20)) ||| 0)), (2, .int ((q_acc (fineS S t) (fun r => withJ S t r (gmkS S t r)) i20) + (withJ S t i20 (gmkS S t i20)))), (0, .ref (q 0)), (1, .int (nI t))]) hx hb dX3_greatestScore_73 hl (k := 2) rfl (nI_1 _) (by decide) rfl (fun ls hl => ?_)
            refine lv_goto (tgt := 20) hx hb dX3_greatestScore_76 (by decide) ?_
            exact ih_i20 (i20 + 1) ((bI (q_any (cpj1 S t) i20)) ||| 0) ((q_acc (fineS S t) (fun r => withJ S t r (gmkS S t r)) i20) + (withJ S t i20 (gmkS S t i20))) (by first | rfl | simp [q_acc, q_any, cpj1, bI_o1, bI_o0, bI_t, c_53, c_63]) (by first | rfl | simp [q_acc, q_any, cpj1, bI_o1, bI_o0, bI_t, c_53, c_63]) lt_i20 (by omega) ls (lv_sub hl [0, 1, 2, 3, 4] rfl)
          · skip
            have c_63 : (chiS S t i20) = true := bI_ne c_63
            refine lv_iconst (v := 1) hx hb dX3_greatestScore_66 (by decide) ?_
            refine lv_goto (tgt := 71) hx hb dX3_greatestScore_67 (by decide) ?_
            refine lv_ior hx hb dX3_greatestScore_71 ?_
            refine lv_istore_n (lv' := [(3, .int ((bI (q_any (cpj1 S t) i20)) ||| 1)), (2, .int ((q_acc (fineS S t) (fun r => withJ S t r (gmkS S t r)) i20) + (withJ S t i20 (gmkS S t i20)))), (4, .int (nI i20)), (0, .ref (q 0)), (1, .int (nI t))]) hx hb dX3_greatestScore_72 rfl hl (by decide) rfl (fun ls hl => ?_)
            refine lv_iinc (v := nI (i20 + 1)) (lv' := [(4, .int (nI (i20 + 1))), (3, .int ((bI (q_any (cpj1 S t) i20)) ||| 1)), (2, .int ((q_acc (fineS S t) (fun r => withJ S t r (gmkS S t r)) i20) + (withJ S t i20 (gmkS S t i20)))), (0, .ref (q 0)), (1, .int (nI t))]) hx hb dX3_greatestScore_73 hl (k := 2) rfl (nI_1 _) (by decide) rfl (fun ls hl => ?_)
            refine lv_goto (tgt := 20) hx hb dX3_greatestScore_76 (by decide) ?_
            exact ih_i20 (i20 + 1) ((bI (q_any (cpj1 S t) i20)) ||| 1) ((q_acc (fineS S t) (fun r => withJ S t r (gmkS S t r)) i20) + (withJ S t i20 (gmkS S t i20))) (by first | rfl | simp [q_acc, q_any, cpj1, bI_o1, bI_o0, bI_t, c_53, c_63]) (by first | rfl | simp [q_acc, q_any, cpj1, bI_o1, bI_o0, bI_t, c_53, c_63]) lt_i20 (by omega) ls (lv_sub hl [0, 1, 2, 3, 4] rfl)
  exact L_20 (8 + 1) 0 0 ((-(s_set S 3)) * (s_fin S t)) (rfl) (rfl) (Nat.zero_le _) (by omega) ls (lv_sub hl [0, 1, 2, 3, 4] rfl)

set_option maxHeartbeats 4000000 in
set_option maxRecDepth 100000 in
theorem c_X3_canReachOthers (l : Launch) (g : q_G) (q : Nat → Nat) (S : q_St) (t : Nat) (h1_ : t < 10) (h2_ : s_n S ≤ 10) : q_PM l yX3_canReachOthers wsX3_canReachOthers { frames := 5, cells := 0, slots := 0, locals := 111 } [.ref (q 0), .int (nI t)] (q_B g (q_stW g q S)) (.int (bI (croS S t))) := by
  refine q_pm (cc := cX3_canReachOthers) (maxL := 4) (ret := (some .boolean)) (by decide) rfl (Nat.le_of_ble_eq_true rfl) ?_
  intro p e s m args below meth c ls hx hb hml hown hts hr hlk hB hl
  obtain ⟨hP, hK, hN⟩ := hB
  have fl_66 := hts (.fieldLink RX3 66 "PubQuizzes$State" "teams" "I") (by decide +kernel)
  have hi_X3 : ∀ w ∈ u_ws RX3 TX3 12, w ∈ wsX3_canReachOthers := by decide +kernel
  have hl : lv_has ls 4 [(0, .ref (q 0)), (1, .int (nI t))] := hl
  refine lv_aload_n hx hb dX3_canReachOthers_0 rfl (lv_at hl 0 rfl) ?_
  refine lv_iload_n hx hb dX3_canReachOthers_1 rfl (lv_at hl 1 rfl) ?_
  refine q_V (As := [.int (nI t)]) (rest := []) ⟨hx, hb, hml, hown, hts⟩ (c_X3_greatestScore l g q S t (by omega)) (cwV 1 hts gX3_canReachOthers_X3_greatestScore rfl rfl rfl (by decide +kernel) ⟨Nat.le_of_ble_eq_true rfl, Nat.le_of_ble_eq_true rfl⟩) q_B_blind (va_recv hK hP (ci := 2) (q0 := 0) rfl rfl) (q_B_of hP hK hN) rfl hl.1 rfl (Nat.le_of_ble_eq_true rfl) dX3_canReachOthers_2 (Nat.zero_le _) (Nat.zero_le _) ?_
  refine lv_istore_n (lv' := [(2, .int (gscS S t)), (0, .ref (q 0)), (1, .int (nI t))]) hx hb dX3_canReachOthers_5 rfl hl (by decide) rfl (fun ls hl => ?_)
  refine lv_iconst (v := 0) hx hb dX3_canReachOthers_6 (by decide) ?_
  refine lv_istore_n (lv' := [(3, .int 0), (2, .int (gscS S t)), (0, .ref (q 0)), (1, .int (nI t))]) hx hb dX3_canReachOthers_7 rfl hl (by decide) rfl (fun ls hl => ?_)
  have L_8 : ∀ (n i8 : Nat), (q_any (cro1 S t) i8 = false) → i8 ≤ s_n S → s_n S < i8 + n → ∀ ls : Array Slot, lv_has ls 4 [(3, .int (nI i8)), (2, .int (gscS S t)), (0, .ref (q 0)), (1, .int (nI t))] → W p l e { frames := 5, cells := 0, slots := 0, locals := 111 } s m args below meth c s.heap [] 0 0 (MQ below (k2_QcV (.int (bI (croS S t)))) args s 0 0 (fun _ => False)) (F0 m 8 ls []) := by
    intro n
    induction n with
    | zero => intro i8 hf hi_i8 hn_i8; exact absurd hn_i8 (by omega)
    | succ n ih_i8 =>
      intro i8 hf hi_i8 hn_i8 ls hl
      refine lv_iload_n hx hb dX3_canReachOthers_8 rfl (lv_at hl 0 rfl) ?_
      refine lv_aload_n hx hb dX3_canReachOthers_9 rfl (lv_at hl 2 rfl) ?_
      refine va_get (D := g.1) (ci := 2) (v := .int (nI (s_n S))) (C := RX3) (T := TX3) (N := 12) hx hb hts hi_X3 hown hK hP 0 rfl rfl 10 (by decide) fl_66 (fun _ h9 => h9) rfl dX3_canReachOthers_10 ?_
      refine lv_icmp_ge (tgt := 38) hx hb dX3_canReachOthers_13 (by decide) (fun c_13 => ?_) (fun c_13 => ?_)
      · skip
        have e_13 : i8 = s_n S := q_ge_T (by omega) hi_i8 c_13
        rw [e_13] at hf
        refine lv_iconst (v := 1) hx hb dX3_canReachOthers_38 (by decide) ?_
        exact q_zret hx hb hr hlk dX3_canReachOthers_39 (by simp [croS, bI, hf])
      · skip
        have lt_i8 : i8 < s_n S := q_ge_F (by omega) hi_i8 c_13
        refine lv_iload_n hx hb dX3_canReachOthers_16 rfl (lv_at hl 0 rfl) ?_
        refine lv_iload_n hx hb dX3_canReachOthers_17 rfl (lv_at hl 3 rfl) ?_
        refine lv_icmp_eq (tgt := 32) hx hb dX3_canReachOthers_18 (by decide) (fun c_18 => ?_) (fun c_18 => ?_)
        · skip
          refine lv_iinc (v := nI (i8 + 1)) (lv' := [(3, .int (nI (i8 + 1))), (2, .int (gscS S t)), (0, .ref (q 0)), (1, .int (nI t))]) hx hb dX3_canReachOthers_32 hl (k := 0) rfl (nI_1 _) (by decide) rfl (fun ls hl => ?_)
          refine lv_goto (tgt := 8) hx hb dX3_canReachOthers_35 (by decide) ?_
          exact ih_i8 (i8 + 1) (by simp [q_any, hf, cro1, c_18]) lt_i8 (by omega) ls (lv_sub hl [0, 1, 2, 3] rfl)
        · skip
          refine lv_aload_n hx hb dX3_canReachOthers_21 rfl (lv_at hl 2 rfl) ?_
          refine lv_iload_n hx hb dX3_canReachOthers_22 rfl (lv_at hl 0 rfl) ?_
          refine q_V (As := [.int (nI i8)]) (rest := []) ⟨hx, hb, hml, hown, hts⟩ (c_X3_scoreOf l g q S i8 (by omega)) (cwV 1 hts gX3_canReachOthers_X3_scoreOf rfl rfl rfl (by decide +kernel) ⟨Nat.le_of_ble_eq_true rfl, Nat.le_of_ble_eq_true rfl⟩) q_B_blind (va_recv hK hP (ci := 2) (q0 := 0) rfl rfl) (q_B_of hP hK hN) rfl hl.1 rfl (Nat.le_of_ble_eq_true rfl) dX3_canReachOthers_23 (Nat.zero_le _) (Nat.zero_le _) ?_
          refine lv_iload_n hx hb dX3_canReachOthers_26 rfl (lv_at hl 1 rfl) ?_
          refine lv_icmp_le (tgt := 32) hx hb dX3_canReachOthers_27 (by decide) (fun c_27 => ?_) (fun c_27 => ?_)
          · skip
            refine lv_iinc (v := nI (i8 + 1)) (lv' := [(3, .int (nI (i8 + 1))), (2, .int (gscS S t)), (0, .ref (q 0)), (1, .int (nI t))]) hx hb dX3_canReachOthers_32 hl (k := 0) rfl (nI_1 _) (by decide) rfl (fun ls hl => ?_)
            refine lv_goto (tgt := 8) hx hb dX3_canReachOthers_35 (by decide) ?_
            exact ih_i8 (i8 + 1) (by simp [q_any, hf, cro1, c_18, c_27]) lt_i8 (by omega) ls (lv_sub hl [0, 1, 2, 3] rfl)
          · skip
            refine lv_iconst (v := 0) hx hb dX3_canReachOthers_30 (by decide) ?_
            exact q_zret hx hb hr hlk dX3_canReachOthers_31 (by simp [croS, bI, q_any_t lt_i8 (f := cro1 S t) (by simp [cro1, c_18, c_27])])
  exact L_8 (s_n S + 1) 0 (rfl) (Nat.zero_le _) (by omega) ls (lv_sub hl [0, 1, 2, 3] rfl)
