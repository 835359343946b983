/-! the law's small questions -/

set_option maxHeartbeats 4000000 in
set_option maxRecDepth 100000 in
theorem c_L_bits (l : Launch) (x : Int32) : q_PM l yL_bits wsL_bits { frames := 0, cells := 0, slots := 0, locals := 0 } [.int x] (fun _ => True) (.int (bitI x)) := by
  refine q_pm (cc := cL_bits) (maxL := 3) (ret := (some .int)) (by decide) rfl (Nat.le_of_ble_eq_true rfl) ?_
  intro p e s m args below meth c ls hx hb hml hown hts hr hlk _ hl
  have hl : lv_has ls 3 [(0, .int x)] := hl
  refine lv_iconst (v := 0) hx hb dL_bits_0 (by decide) ?_
  refine lv_istore_n (lv' := [(1, .int 0), (0, .int x)]) hx hb dL_bits_1 rfl hl (by decide) rfl (fun ls hl => ?_)
  refine lv_iconst (v := 0) hx hb dL_bits_2 (by decide) ?_
  refine lv_istore_n (lv' := [(2, .int 0), (1, .int 0), (0, .int x)]) hx hb dL_bits_3 rfl hl (by decide) rfl (fun ls hl => ?_)
  have L_4 : ∀ (fu i4 : Nat) (y1_4 : Int32), y1_4 = q_acc 0 (fun k => (x >>> (nI k &&& 31)) &&& 1) i4 → i4 ≤ 10 → 10 < i4 + fu → ∀ ls : Array Slot, lv_has ls 3 [(2, .int (nI i4)), (1, .int y1_4), (0, .int x)] → W p l e { frames := 0, cells := 0, slots := 0, locals := 0 } s m args below meth c s.heap [] 0 0 (MQ below (k2_QcV (.int (bitI x))) args s 0 0 (fun _ => False)) (F0 m 4 ls []) := by
    intro fu
    induction fu with
    | zero => intro i4 y1_4 ey1_4 hi_i4 hn_i4; exact absurd hn_i4 (by omega)
    | succ fu ih_i4 =>
      intro i4 y1_4 ey1_4 hi_i4 hn_i4 ls hl
      subst ey1_4
      refine lv_iload_n hx hb dL_bits_4 rfl (lv_at hl 0 rfl) ?_
      refine lv_bipush (v := 10) hx hb dL_bits_5 (by decide) ?_
      refine lv_icmp_ge (tgt := 24) hx hb dL_bits_7 (by decide) (fun c_7 => ?_) (fun c_7 => ?_)
      · skip
        have e_7 : i4 = 10 := q_ge_T (by omega) hi_i4 c_7
        subst e_7
        refine lv_iload_n hx hb dL_bits_24 rfl (lv_at hl 1 rfl) ?_
        exact q_iret hx hb hr hlk dL_bits_25 (rfl)
      · skip
        have lt_i4 : i4 < 10 := q_ge_F (by omega) hi_i4 c_7
        refine lv_iload_n hx hb dL_bits_10 rfl (lv_at hl 1 rfl) ?_
        refine lv_iload_n hx hb dL_bits_11 rfl (lv_at hl 2 rfl) ?_
        refine lv_iload_n hx hb dL_bits_12 rfl (lv_at hl 0 rfl) ?_
        refine lv_ishr hx hb dL_bits_13 ?_
        refine lv_iconst (v := 1) hx hb dL_bits_14 (by decide) ?_
        refine lv_iand hx hb dL_bits_15 ?_
        refine lv_iadd hx hb dL_bits_16 ?_
        refine lv_istore_n (lv' := [(1, .int ((q_acc 0 (fun k => (x >>> (nI k &&& 31)) &&& 1) i4) + ((x >>> ((nI i4) &&& 31)) &&& 1))), (2, .int (nI i4)), (0, .int x)]) hx hb dL_bits_17 rfl hl (by decide) rfl (fun ls hl => ?_)
        refine lv_iinc (v := nI (i4 + 1)) (lv' := [(2, .int (nI (i4 + 1))), (1, .int ((q_acc 0 (fun k => (x >>> (nI k &&& 31)) &&& 1) i4) + ((x >>> ((nI i4) &&& 31)) &&& 1))), (0, .int x)]) hx hb dL_bits_18 hl (k := 1) rfl (nI_1 _) (by decide) rfl (fun ls hl => ?_)
        refine lv_goto (tgt := 4) hx hb dL_bits_21 (by decide) ?_
        exact ih_i4 (i4 + 1) ((q_acc 0 (fun k => (x >>> (nI k &&& 31)) &&& 1) i4) + ((x >>> ((nI i4) &&& 31)) &&& 1)) (rfl) lt_i4 (by omega) ls (lv_sub hl [0, 1, 2] rfl)
  exact L_4 (10 + 1) 0 0 (rfl) (Nat.zero_le _) (by omega) ls (lv_sub hl [0, 1, 2] rfl)

set_option maxHeartbeats 4000000 in
set_option maxRecDepth 100000 in
theorem c_L_far (l : Launch) (g : q_G) (a : Nat → Nat → Nat) (b : Nat → Nat) (V : q_CV) (K : Nat) (hv : q_iv K V) (hK5 : K ≤ 512) (t : Nat) (h1_ : t < s_n (v_now V)) : q_PM l yL_far wsL_far { frames := 7, cells := 0, slots := 0, locals := 163 } [.ref (b 0), .int (nI t)] (q_B g (q_pqW g a b V)) (.int (farS (v_now V) t)) := by
  refine q_pm (cc := cL_far) (maxL := 4) (ret := (some .int)) (by decide) rfl (Nat.le_of_ble_eq_true rfl) ?_
  intro p e s m args below meth c ls hx hb hml hown hts hr hlk hB hl
  obtain ⟨hP, hK, hN⟩ := hB
  have hl : lv_has ls 4 [(0, .ref (b 0)), (1, .int (nI t))] := hl
  obtain ⟨ho, hpx, hpl, hh6, hn6⟩ := id hv
  have hn10 := ok_n ho
  have hn3 := hpx.1
  refine lv_aload_n hx hb dL_far_0 rfl (lv_at hl 0 rfl) ?_
  refine lv_iload_n hx hb dL_far_1 rfl (lv_at hl 1 rfl) ?_
  refine lv_iconst (v := 5) hx hb dL_far_2 (by decide) ?_
  refine q_V (As := [.int (nI t), .int 5]) (rest := []) ⟨hx, hb, hml, hown, hts⟩ (c_X4_ofTeam l g a b V (nI t) 5 (by omega)) (cwV 2 hts gL_far_X4_ofTeam rfl rfl rfl (by decide +kernel) ⟨Nat.le_of_ble_eq_true rfl, Nat.le_of_ble_eq_true rfl⟩) q_B_blind (va_recv hK hP (ci := 3) (q0 := 0) rfl rfl) (q_B_of hP hK hN) rfl hl.1 rfl (Nat.le_of_ble_eq_true rfl) dL_far_3 (Nat.zero_le _) (Nat.zero_le _) ?_
  refine q_reI (show (oftR V (nI t) 5 : Int32) = s_gue (v_now V) t from w_o5 hn10 h1_) ?_
  refine lv_istore_n (lv' := [(2, .int (s_gue (v_now V) t)), (0, .ref (b 0)), (1, .int (nI t))]) hx hb dL_far_6 rfl hl (by decide) rfl (fun ls hl => ?_)
  refine lv_aload_n hx hb dL_far_7 rfl (lv_at hl 1 rfl) ?_
  refine lv_bipush (v := 7) hx hb dL_far_8 (by decide) ?_
  refine q_V (As := [.int 7]) (rest := []) ⟨hx, hb, hml, hown, hts⟩ (c_X4_count l g a b V 7 (by omega)) (cwV 1 hts gL_far_X4_count rfl rfl rfl (by decide +kernel) ⟨Nat.le_of_ble_eq_true rfl, Nat.le_of_ble_eq_true rfl⟩) q_B_blind (va_recv hK hP (ci := 3) (q0 := 0) rfl rfl) (q_B_of hP hK hN) rfl hl.1 rfl (Nat.le_of_ble_eq_true rfl) dL_far_10 (Nat.zero_le _) (Nat.zero_le _) ?_
  refine q_reI (show (couR V 7 : Int32) = s_tru (v_now V) from w_c7) ?_
  refine lv_istore_n (lv' := [(3, .int (s_tru (v_now V))), (2, .int (s_gue (v_now V) t)), (0, .ref (b 0)), (1, .int (nI t))]) hx hb dL_far_13 rfl hl (by decide) rfl (fun ls hl => ?_)
  refine lv_iload_n hx hb dL_far_14 rfl (lv_at hl 1 rfl) ?_
  refine lv_if_ge (tgt := 23) hx hb dL_far_15 (by decide) (fun c_15 => ?_) (fun c_15 => ?_)
  · skip
    have c_15 : ¬ s_gue (v_now V) t = -6 := (w_gue ho (by omega)).1 c_15
    refine lv_iload_n hx hb dL_far_23 rfl (lv_at hl 1 rfl) ?_
    refine lv_iload_n hx hb dL_far_24 rfl (lv_at hl 0 rfl) ?_
    refine lv_icmp_le (tgt := 34) hx hb dL_far_25 (by decide) (fun c_25 => ?_) (fun c_25 => ?_)
    · skip
      have d_25 : ¬ s_tru (v_now V) < s_gue (v_now V) t := Int32.not_lt.mpr c_25
      refine lv_iload_n hx hb dL_far_34 rfl (lv_at hl 0 rfl) ?_
      refine lv_iload_n hx hb dL_far_35 rfl (lv_at hl 1 rfl) ?_
      refine lv_isub hx hb dL_far_36 ?_
      exact q_iret hx hb hr hlk dL_far_37 (by simp [farS, c_15, d_25, c_25])
    · skip
      have d_25 : s_tru (v_now V) < s_gue (v_now V) t := Int32.not_le.mp c_25
      refine lv_iload_n hx hb dL_far_28 rfl (lv_at hl 1 rfl) ?_
      refine lv_iload_n hx hb dL_far_29 rfl (lv_at hl 0 rfl) ?_
      refine lv_isub hx hb dL_far_30 ?_
      refine lv_goto (tgt := 37) hx hb dL_far_31 (by decide) ?_
      exact q_iret hx hb hr hlk dL_far_37 (by simp [farS, c_15, d_25, c_25])
  · skip
    have c_15 : s_gue (v_now V) t = -6 := (w_gue ho (by omega)).2 c_15
    refine lv_ldc (v := 100000) hx hb hown (hts (.constant RL 19 (100000)) (by decide +kernel)) dL_far_18 ?_
    refine lv_goto (tgt := 37) hx hb dL_far_20 (by decide) ?_
    exact q_iret hx hb hr hlk dL_far_37 (by simp [farS, c_15])

set_option maxHeartbeats 4000000 in
set_option maxRecDepth 100000 in
theorem c_L_isAhead (l : Launch) (g : q_G) (a : Nat → Nat → Nat) (b : Nat → Nat) (V : q_CV) (K : Nat) (hv : q_iv K V) (hK5 : K ≤ 512) (t : Nat) (o : Nat) (h1_ : t < s_n (v_now V)) (h2_ : o < s_n (v_now V)) : q_PM l yL_isAhead wsL_isAhead { frames := 8, cells := 0, slots := 0, locals := 186 } [.ref (b 0), .int (nI t), .int (nI o)] (q_B g (q_pqW g a b V)) (.int (bI (aheS (v_now V) t o))) := by
  refine q_pm (cc := cL_isAhead) (maxL := 5) (ret := (some .boolean)) (by decide) rfl (Nat.le_of_ble_eq_true rfl) ?_
  intro p e s m args below meth c ls hx hb hml hown hts hr hlk hB hl
  obtain ⟨hP, hK, hN⟩ := hB
  have hl : lv_has ls 5 [(0, .ref (b 0)), (1, .int (nI t)), (2, .int (nI o))] := hl
  obtain ⟨ho, hpx, hpl, hh6, hn6⟩ := id hv
  have hn10 := ok_n ho
  have hn3 := hpx.1
  refine lv_aload_n hx hb dL_isAhead_0 rfl (lv_at hl 0 rfl) ?_
  refine lv_iload_n hx hb dL_isAhead_1 rfl (lv_at hl 1 rfl) ?_
  refine lv_iconst (v := 0) hx hb dL_isAhead_2 (by decide) ?_
  refine q_V (As := [.int (nI t), .int 0]) (rest := []) ⟨hx, hb, hml, hown, hts⟩ (c_X4_ofTeam l g a b V (nI t) 0 (by omega)) (cwV 2 hts gL_isAhead_X4_ofTeam rfl rfl rfl (by decide +kernel) ⟨Nat.le_of_ble_eq_true rfl, Nat.le_of_ble_eq_true rfl⟩) q_B_blind (va_recv hK hP (ci := 3) (q0 := 0) rfl rfl) (q_B_of hP hK hN) rfl hl.1 rfl (Nat.le_of_ble_eq_true rfl) dL_isAhead_3 (Nat.zero_le _) (Nat.zero_le _) ?_
  refine q_reI (show (oftR V (nI t) 0 : Int32) = scoS (v_now V) t + 1000 from w_o0 hn10 h1_) ?_
  refine lv_istore_n (lv' := [(3, .int (scoS (v_now V) t + 1000)), (0, .ref (b 0)), (1, .int (nI t)), (2, .int (nI o))]) hx hb dL_isAhead_6 rfl hl (by decide) rfl (fun ls hl => ?_)
  refine lv_aload_n hx hb dL_isAhead_7 rfl (lv_at hl 1 rfl) ?_
  refine lv_iload_n hx hb dL_isAhead_8 rfl (lv_at hl 3 rfl) ?_
  refine lv_iconst (v := 0) hx hb dL_isAhead_9 (by decide) ?_
  refine q_V (As := [.int (nI o), .int 0]) (rest := []) ⟨hx, hb, hml, hown, hts⟩ (c_X4_ofTeam l g a b V (nI o) 0 (by omega)) (cwV 2 hts gL_isAhead_X4_ofTeam rfl rfl rfl (by decide +kernel) ⟨Nat.le_of_ble_eq_true rfl, Nat.le_of_ble_eq_true rfl⟩) q_B_blind (va_recv hK hP (ci := 3) (q0 := 0) rfl rfl) (q_B_of hP hK hN) rfl hl.1 rfl (Nat.le_of_ble_eq_true rfl) dL_isAhead_10 (Nat.zero_le _) (Nat.zero_le _) ?_
  refine q_reI (show (oftR V (nI o) 0 : Int32) = scoS (v_now V) o + 1000 from w_o0 hn10 h2_) ?_
  refine lv_istore (lv' := [(4, .int (scoS (v_now V) o + 1000)), (3, .int (scoS (v_now V) t + 1000)), (0, .ref (b 0)), (1, .int (nI t)), (2, .int (nI o))]) hx hb dL_isAhead_13 hl (by decide) rfl (fun ls hl => ?_)
  refine lv_iload_n hx hb dL_isAhead_15 rfl (lv_at hl 1 rfl) ?_
  refine lv_iload hx hb dL_isAhead_16 (lv_at hl 0 rfl) ?_
  refine lv_icmp_gt (tgt := 49) hx hb dL_isAhead_18 (by decide) (fun c_18 => ?_) (fun c_18 => ?_)
  · skip
    have e_a : aheS (v_now V) t o = true := ahe_1 ho hK5 (by omega) (by omega) ((w_slt ho hK5 (by omega) (by omega)).mp c_18)
    refine lv_iconst (v := 1) hx hb dL_isAhead_49 (by decide) ?_
    refine lv_goto (tgt := 54) hx hb dL_isAhead_50 (by decide) ?_
    exact q_zret hx hb hr hlk dL_isAhead_54 (by rw [e_a]; rfl)
  · skip
    have d_18 : ¬ scoS (v_now V) o < scoS (v_now V) t := fun q => c_18 ((w_slt ho hK5 (by omega) (by omega)).mpr q)
    refine lv_iload_n hx hb dL_isAhead_21 rfl (lv_at hl 1 rfl) ?_
    refine lv_iload hx hb dL_isAhead_22 (lv_at hl 0 rfl) ?_
    refine lv_icmp_ne (tgt := 53) hx hb dL_isAhead_24 (by decide) (fun c_24 => ?_) (fun c_24 => ?_)
    · skip
      have e_a : aheS (v_now V) t o = false := ahe_2 ho hK5 (by omega) (by omega) d_18 (fun q => c_24 ((w_seq ho hK5 (by omega) (by omega)).mpr q))
      refine lv_iconst (v := 0) hx hb dL_isAhead_53 (by decide) ?_
      exact q_zret hx hb hr hlk dL_isAhead_54 (by rw [e_a]; rfl)
    · skip
      have d_24 : scoS (v_now V) t = scoS (v_now V) o := (w_seq ho hK5 (by omega) (by omega)).mp c_24
      refine lv_aload_n hx hb dL_isAhead_27 rfl (lv_at hl 2 rfl) ?_
      refine lv_bipush (v := 7) hx hb dL_isAhead_28 (by decide) ?_
      refine q_V (As := [.int 7]) (rest := []) ⟨hx, hb, hml, hown, hts⟩ (c_X4_count l g a b V 7 (by omega)) (cwV 1 hts gL_isAhead_X4_count rfl rfl rfl (by decide +kernel) ⟨Nat.le_of_ble_eq_true rfl, Nat.le_of_ble_eq_true rfl⟩) q_B_blind (va_recv hK hP (ci := 3) (q0 := 0) rfl rfl) (q_B_of hP hK hN) rfl hl.1 rfl (Nat.le_of_ble_eq_true rfl) dL_isAhead_30 (Nat.zero_le _) (Nat.zero_le _) ?_
      refine q_reI (show (couR V 7 : Int32) = s_tru (v_now V) from w_c7) ?_
      refine lv_if_lt (tgt := 53) hx hb dL_isAhead_33 (by decide) (fun c_33 => ?_) (fun c_33 => ?_)
      · skip
        have e_a : aheS (v_now V) t o = false := w_ah0 ho hK5 (by omega) (by omega) d_24 c_33
        refine lv_iconst (v := 0) hx hb dL_isAhead_53 (by decide) ?_
        exact q_zret hx hb hr hlk dL_isAhead_54 (by rw [e_a]; rfl)
      · skip
        refine lv_aload_n hx hb dL_isAhead_36 rfl (lv_at hl 2 rfl) ?_
        refine lv_iload_n hx hb dL_isAhead_37 rfl (lv_at hl 3 rfl) ?_
        refine q_S (As := [.ref (b 0), .int (nI t)]) (rest := []) ⟨hx, hb, hml, hown, hts⟩ (c_L_far l g a b V K hv hK5 t (by omega)) (va_cwS 2 hts gL_isAhead_L_far rfl rfl rfl (by decide +kernel) ⟨Nat.le_of_ble_eq_true rfl, Nat.le_of_ble_eq_true rfl⟩) q_B_blind (q_B_of hP hK hN) rfl hl.1 rfl (Nat.le_of_ble_eq_true rfl) dL_isAhead_38 (Nat.zero_le _) (Nat.zero_le _) ?_
        refine lv_aload_n hx hb dL_isAhead_41 rfl (lv_at hl 2 rfl) ?_
        refine lv_iload_n hx hb dL_isAhead_42 rfl (lv_at hl 4 rfl) ?_
        refine q_S (As := [.ref (b 0), .int (nI o)]) (rest := [.int (farS (v_now V) t)]) ⟨hx, hb, hml, hown, hts⟩ (c_L_far l g a b V K hv hK5 o (by omega)) (va_cwS 2 hts gL_isAhead_L_far rfl rfl rfl (by decide +kernel) ⟨Nat.le_of_ble_eq_true rfl, Nat.le_of_ble_eq_true rfl⟩) q_B_blind (q_B_of hP hK hN) rfl hl.1 rfl (Nat.le_of_ble_eq_true rfl) dL_isAhead_43 (Nat.zero_le _) (Nat.zero_le _) ?_
        refine lv_icmp_ge (tgt := 53) hx hb dL_isAhead_46 (by decide) (fun c_46 => ?_) (fun c_46 => ?_)
        · skip
          have e_a : aheS (v_now V) t o = false := w_ah1 ho hK5 (by omega) (by omega) d_24 c_33 c_46
          refine lv_iconst (v := 0) hx hb dL_isAhead_53 (by decide) ?_
          exact q_zret hx hb hr hlk dL_isAhead_54 (by rw [e_a]; rfl)
        · skip
          have e_a : aheS (v_now V) t o = true := w_ah2 ho hK5 (by omega) (by omega) d_24 c_33 c_46
          refine lv_iconst (v := 1) hx hb dL_isAhead_49 (by decide) ?_
          refine lv_goto (tgt := 54) hx hb dL_isAhead_50 (by decide) ?_
          exact q_zret hx hb hr hlk dL_isAhead_54 (by rw [e_a]; rfl)
