set_option maxHeartbeats 4000000 in
set_option maxRecDepth 100000 in
theorem c_X5_in (l : Launch) (x : Int32) (lo : Int32) (hi : Int32) : q_PM l yX5_in wsX5_in { frames := 0, cells := 0, slots := 0, locals := 0 } [.int x, .int lo, .int hi] (fun _ => True) (.int (bI (inR x lo hi))) := by
  refine q_pm (cc := cX5_in) (maxL := 3) (ret := (some .boolean)) (by decide) rfl (Nat.le_of_ble_eq_true rfl) ?_
  intro p e s m args below meth c ls hx hb hml hown hts hr hlk _ hl
  have hl : lv_has ls 3 [(0, .int x), (1, .int lo), (2, .int hi)] := hl
  refine lv_iload_n hx hb dX5_in_0 rfl (lv_at hl 0 rfl) ?_
  refine lv_iload_n hx hb dX5_in_1 rfl (lv_at hl 1 rfl) ?_
  refine lv_icmp_lt (tgt := 14) hx hb dX5_in_2 (by decide) (fun c_2 => ?_) (fun c_2 => ?_)
  · skip
    refine lv_iconst (v := 0) hx hb dX5_in_14 (by decide) ?_
    exact q_zret hx hb hr hlk dX5_in_15 (by simp [inR, bI, c_2])
  · skip
    refine lv_iload_n hx hb dX5_in_5 rfl (lv_at hl 0 rfl) ?_
    refine lv_iload_n hx hb dX5_in_6 rfl (lv_at hl 2 rfl) ?_
    refine lv_icmp_gt (tgt := 14) hx hb dX5_in_7 (by decide) (fun c_7 => ?_) (fun c_7 => ?_)
    · skip
      refine lv_iconst (v := 0) hx hb dX5_in_14 (by decide) ?_
      exact q_zret hx hb hr hlk dX5_in_15 (by simp [inR, bI, c_2, c_7])
    · skip
      refine lv_iconst (v := 1) hx hb dX5_in_10 (by decide) ?_
      refine lv_goto (tgt := 15) hx hb dX5_in_11 (by decide) ?_
      exact q_zret hx hb hr hlk dX5_in_15 (by simp [inR, bI, c_2, c_7])

set_option maxHeartbeats 4000000 in
set_option maxRecDepth 100000 in
theorem c_X5_r (l : Launch) (r : Nat) : q_PM l yX5_r wsX5_r { frames := 0, cells := 0, slots := 0, locals := 0 } [.int (nI r)] (fun _ => True) (.int (nI (8 + 11 * r))) := by
  refine q_pm (cc := cX5_r) (maxL := 1) (ret := (some .int)) (by decide) rfl (Nat.le_of_ble_eq_true rfl) ?_
  intro p e s m args below meth c ls hx hb hml hown hts hr hlk _ hl
  have hl : lv_has ls 1 [(0, .int (nI r))] := hl
  refine lv_bipush (v := 8) hx hb dX5_r_0 (by decide) ?_
  refine lv_bipush (v := 11) hx hb dX5_r_2 (by decide) ?_
  refine lv_iload_n hx hb dX5_r_4 rfl (lv_at hl 0 rfl) ?_
  refine lv_imul hx hb dX5_r_5 ?_
  refine q_reI (show ((11 * (nI r)) : Int32) = nI (11 * r) from pk_mul _ _) ?_
  refine lv_iadd hx hb dX5_r_6 ?_
  refine q_reI (show ((8 + (nI (11 * r))) : Int32) = nI (8 + (11 * r)) from nI_add _ _) ?_
  exact q_iret hx hb hr hlk dX5_r_7 (rfl)

set_option maxHeartbeats 4000000 in
set_option maxRecDepth 100000 in
theorem c_X5_t (l : Launch) (t : Nat) : q_PM l yX5_t wsX5_t { frames := 0, cells := 0, slots := 0, locals := 0 } [.int (nI t)] (fun _ => True) (.int (nI (96 + 4 * t))) := by
  refine q_pm (cc := cX5_t) (maxL := 1) (ret := (some .int)) (by decide) rfl (Nat.le_of_ble_eq_true rfl) ?_
  intro p e s m args below meth c ls hx hb hml hown hts hr hlk _ hl
  have hl : lv_has ls 1 [(0, .int (nI t))] := hl
  refine lv_bipush (v := 96) hx hb dX5_t_0 (by decide) ?_
  refine lv_iconst (v := 4) hx hb dX5_t_2 (by decide) ?_
  refine lv_iload_n hx hb dX5_t_3 rfl (lv_at hl 0 rfl) ?_
  refine lv_imul hx hb dX5_t_4 ?_
  refine q_reI (show ((4 * (nI t)) : Int32) = nI (4 * t) from pk_mul _ _) ?_
  refine lv_iadd hx hb dX5_t_5 ?_
  refine q_reI (show ((96 + (nI (4 * t))) : Int32) = nI (96 + (4 * t)) from nI_add _ _) ?_
  exact q_iret hx hb hr hlk dX5_t_6 (rfl)

set_option maxHeartbeats 4000000 in
set_option maxRecDepth 100000 in
theorem c_X5_h (l : Launch) (t : Nat) (r : Nat) : q_PM l yX5_h wsX5_h { frames := 0, cells := 0, slots := 0, locals := 0 } [.int (nI t), .int (nI r)] (fun _ => True) (.int (nI (136 + 15 * (t * 8 + r)))) := by
  refine q_pm (cc := cX5_h) (maxL := 2) (ret := (some .int)) (by decide) rfl (Nat.le_of_ble_eq_true rfl) ?_
  intro p e s m args below meth c ls hx hb hml hown hts hr hlk _ hl
  have hl : lv_has ls 2 [(0, .int (nI t)), (1, .int (nI r))] := hl
  refine lv_sipush (v := 136) hx hb dX5_h_0 (by decide) ?_
  refine lv_bipush (v := 15) hx hb dX5_h_3 (by decide) ?_
  refine lv_bipush (v := 8) hx hb dX5_h_5 (by decide) ?_
  refine lv_iload_n hx hb dX5_h_7 rfl (lv_at hl 0 rfl) ?_
  refine lv_imul hx hb dX5_h_8 ?_
  refine q_reI (show ((8 * (nI t)) : Int32) = nI (8 * t) from pk_mul _ _) ?_
  refine lv_iload_n hx hb dX5_h_9 rfl (lv_at hl 1 rfl) ?_
  refine lv_iadd hx hb dX5_h_10 ?_
  refine q_reI (show (((nI (8 * t)) + (nI r)) : Int32) = nI (8 * t + r) from nI_add _ _) ?_
  refine lv_imul hx hb dX5_h_11 ?_
  refine q_reI (show ((15 * (nI (8 * t + r))) : Int32) = nI (15 * (8 * t + r)) from pk_mul _ _) ?_
  refine lv_iadd hx hb dX5_h_12 ?_
  refine q_reI (show ((136 + (nI (15 * (8 * t + r)))) : Int32) = nI (136 + (15 * (8 * t + r))) from nI_add _ _) ?_
  exact q_iret hx hb hr hlk dX5_h_13 (by rw [Nat.mul_comm 8 t])

set_option maxHeartbeats 4000000 in
set_option maxRecDepth 100000 in
theorem c_X5_isRound (l : Launch) (x : Int32) : q_PM l yX5_isRound wsX5_isRound { frames := 1, cells := 0, slots := 0, locals := 22 } [.int x] (fun _ => True) (.int (bI (isRd x))) := by
  refine q_pm (cc := cX5_isRound) (maxL := 1) (ret := (some .boolean)) (by decide) rfl (Nat.le_of_ble_eq_true rfl) ?_
  intro p e s m args below meth c ls hx hb hml hown hts hr hlk _ hl
  have hl : lv_has ls 1 [(0, .int x)] := hl
  refine lv_iload_n hx hb dX5_isRound_0 rfl (lv_at hl 0 rfl) ?_
  refine lv_iconst (v := 0) hx hb dX5_isRound_1 (by decide) ?_
  refine lv_bipush (v := 7) hx hb dX5_isRound_2 (by decide) ?_
  refine q_S (As := [.int x, .int 0, .int 7]) (rest := []) ⟨hx, hb, hml, hown, hts⟩ (c_X5_in l x 0 7 ) (va_cwS 3 hts gX5_isRound_X5_in rfl rfl rfl (by decide +kernel) ⟨Nat.le_of_ble_eq_true rfl, Nat.le_of_ble_eq_true rfl⟩) q_Blind_t (fun _ _ _ => trivial) rfl hl.1 rfl (Nat.le_of_ble_eq_true rfl) dX5_isRound_4 (Nat.zero_le _) (Nat.zero_le _) ?_
  exact q_zret hx hb hr hlk dX5_isRound_7 (by rw [inRd])

set_option maxHeartbeats 4000000 in
set_option maxRecDepth 100000 in
theorem c_X5_bits (l : Launch) (x : Int32) : q_PM l yX5_bits wsX5_bits { frames := 0, cells := 0, slots := 0, locals := 0 } [.int x] (fun _ => True) (.int (bitI x)) := by
  refine q_pm (cc := cX5_bits) (maxL := 3) (ret := (some .int)) (by decide) rfl (Nat.le_of_ble_eq_true rfl) ?_
  intro p e s m args below meth c ls hx hb hml hown hts hr hlk _ hl
  have hl : lv_has ls 3 [(0, .int x)] := hl
  refine lv_iconst (v := 0) hx hb dX5_bits_0 (by decide) ?_
  refine lv_istore_n (lv' := [(1, .int 0), (0, .int x)]) hx hb dX5_bits_1 rfl hl (by decide) rfl (fun ls hl => ?_)
  refine lv_iconst (v := 0) hx hb dX5_bits_2 (by decide) ?_
  refine lv_istore_n (lv' := [(2, .int 0), (1, .int 0), (0, .int x)]) hx hb dX5_bits_3 rfl hl (by decide) rfl (fun ls hl => ?_)
  have L_4 : ∀ (fu i4 : Nat) (y1_4 : Int32), y1_4 = q_acc 0 (fun k => (x >>> (nI k &&& 31)) &&& 1) i4 → i4 ≤ 10 → 10 < i4 + fu → ∀ ls : Array Slot, lv_has ls 3 [(2, .int (nI i4)), (1, .int y1_4), (0, .int x)] → W p l e { frames := 0, cells := 0, slots := 0, locals := 0 } s m args below meth c s.heap [] 0 0 (MQ below (k2_QcV (.int (bitI x))) args s 0 0 (fun _ => False)) (F0 m 4 ls []) := by
    intro fu
    induction fu with
    | zero => intro i4 y1_4 ey1_4 hi_i4 hn_i4; exact absurd hn_i4 (by omega)
    | succ fu ih_i4 =>
      intro i4 y1_4 ey1_4 hi_i4 hn_i4 ls hl
      subst ey1_4
      refine lv_iload_n hx hb dX5_bits_4 rfl (lv_at hl 0 rfl) ?_
      refine lv_bipush (v := 10) hx hb dX5_bits_5 (by decide) ?_
      refine lv_icmp_ge (tgt := 24) hx hb dX5_bits_7 (by decide) (fun c_7 => ?_) (fun c_7 => ?_)
      · skip
        have e_7 : i4 = 10 := q_ge_T (by omega) hi_i4 c_7
        subst e_7
        refine lv_iload_n hx hb dX5_bits_24 rfl (lv_at hl 1 rfl) ?_
        exact q_iret hx hb hr hlk dX5_bits_25 (rfl)
      · skip
        have lt_i4 : i4 < 10 := q_ge_F (by omega) hi_i4 c_7
        refine lv_iload_n hx hb dX5_bits_10 rfl (lv_at hl 1 rfl) ?_
        refine lv_iload_n hx hb dX5_bits_11 rfl (lv_at hl 2 rfl) ?_
        refine lv_iload_n hx hb dX5_bits_12 rfl (lv_at hl 0 rfl) ?_
        refine lv_ishr hx hb dX5_bits_13 ?_
        refine lv_iconst (v := 1) hx hb dX5_bits_14 (by decide) ?_
        refine lv_iand hx hb dX5_bits_15 ?_
        refine lv_iadd hx hb dX5_bits_16 ?_
        refine lv_istore_n (lv' := [(1, .int ((q_acc 0 (fun k => (x >>> (nI k &&& 31)) &&& 1) i4) + ((x >>> ((nI i4) &&& 31)) &&& 1))), (2, .int (nI i4)), (0, .int x)]) hx hb dX5_bits_17 rfl hl (by decide) rfl (fun ls hl => ?_)
        refine lv_iinc (v := nI (i4 + 1)) (lv' := [(2, .int (nI (i4 + 1))), (1, .int ((q_acc 0 (fun k => (x >>> (nI k &&& 31)) &&& 1) i4) + ((x >>> ((nI i4) &&& 31)) &&& 1))), (0, .int x)]) hx hb dX5_bits_18 hl (k := 1) rfl (nI_1 _) (by decide) rfl (fun ls hl => ?_)
        refine lv_goto (tgt := 4) hx hb dX5_bits_21 (by decide) ?_
        exact ih_i4 (i4 + 1) ((q_acc 0 (fun k => (x >>> (nI k &&& 31)) &&& 1) i4) + ((x >>> ((nI i4) &&& 31)) &&& 1)) (rfl) lt_i4 (by omega) ls (lv_sub hl [0, 1, 2] rfl)
  exact L_4 (10 + 1) 0 0 (rfl) (Nat.zero_le _) (by omega) ls (lv_sub hl [0, 1, 2] rfl)

set_option maxHeartbeats 4000000 in
set_option maxRecDepth 100000 in
theorem c_X5_isTeam (l : Launch) (g : q_G) (d : Nat → Nat) (M : q_MV) (S : q_St) (K : Nat) (hc : q_cp S (m_s M)) (ho : q_ok K S) (hK5 : K ≤ 512) (x : Int32) : q_PM l yX5_isTeam wsX5_isTeam { frames := 1, cells := 0, slots := 0, locals := 22 } [.ref (d 0), .int x] (q_B g (q_mdW g d M)) (.int (bI (isTm S x))) := by
  refine q_pm (cc := cX5_isTeam) (maxL := 2) (ret := (some .boolean)) (by decide) rfl (Nat.le_of_ble_eq_true rfl) ?_
  intro p e s m args below meth c ls hx hb hml hown hts hr hlk hB hl
  obtain ⟨hP, hK, hN⟩ := hB
  have hn10 := ok_n ho
  have fl_7 := hts (.fieldLink RX5 7 "PubQuizzesModel" "s" "[I") (by decide +kernel)
  have hi_X5 : ∀ w ∈ u_ws RX5 TX5 7, w ∈ wsX5_isTeam := by decide +kernel
  have hl : lv_has ls 2 [(0, .ref (d 0)), (1, .int x)] := hl
  refine lv_iload_n hx hb dX5_isTeam_0 rfl (lv_at hl 1 rfl) ?_
  refine lv_iconst (v := 0) hx hb dX5_isTeam_1 (by decide) ?_
  refine lv_aload_n hx hb dX5_isTeam_2 rfl (lv_at hl 0 rfl) ?_
  refine va_get (D := g.1) (ci := 4) (v := .ref (d 1)) (C := RX5) (T := TX5) (N := 7) hx hb hts hi_X5 hown hK hP 0 rfl rfl 0 (by decide) fl_7 (fun _ h9 => h9) rfl dX5_isTeam_3 ?_
  refine lv_iconst (v := 4) hx hb dX5_isTeam_6 (by decide) ?_
  refine q_iald (j := 4) hx hb hK hP 1 0 rfl rfl (by omega) (by decide) dX5_isTeam_7 ?_
  refine q_reI (show (m_s M 4 : Int32) = nI (s_n S) from cp_n hc) ?_
  refine lv_iconst (v := 1) hx hb dX5_isTeam_8 (by decide) ?_
  refine lv_isub hx hb dX5_isTeam_9 ?_
  refine q_S (As := [.int x, .int 0, .int ((nI (s_n S)) - 1)]) (rest := []) ⟨hx, hb, hml, hown, hts⟩ (c_X5_in l x 0 ((nI (s_n S)) - 1) ) (va_cwS 3 hts gX5_isTeam_X5_in rfl rfl rfl (by decide +kernel) ⟨Nat.le_of_ble_eq_true rfl, Nat.le_of_ble_eq_true rfl⟩) q_Blind_t (fun _ _ _ => trivial) rfl hl.1 rfl (Nat.le_of_ble_eq_true rfl) dX5_isTeam_10 (Nat.zero_le _) (Nat.zero_le _) ?_
  exact q_zret hx hb hr hlk dX5_isTeam_13 (by rw [inTm hn10])

set_option maxHeartbeats 4000000 in
set_option maxRecDepth 100000 in
theorem c_X5_isOpen (l : Launch) (g : q_G) (d : Nat → Nat) (M : q_MV) (S : q_St) (K : Nat) (hc : q_cp S (m_s M)) (ho : q_ok K S) (hK5 : K ≤ 512) (r : Nat) (h1_ : r < 8) : q_PM l yX5_isOpen wsX5_isOpen { frames := 1, cells := 0, slots := 0, locals := 20 } [.ref (d 0), .int (nI r)] (q_B g (q_mdW g d M)) (.int (bI (isOp S r))) := by
  refine q_pm (cc := cX5_isOpen) (maxL := 2) (ret := (some .boolean)) (by decide) rfl (Nat.le_of_ble_eq_true rfl) ?_
  intro p e s m args below meth c ls hx hb hml hown hts hr hlk hB hl
  obtain ⟨hP, hK, hN⟩ := hB
  have hn10 := ok_n ho
  have fl_7 := hts (.fieldLink RX5 7 "PubQuizzesModel" "s" "[I") (by decide +kernel)
  have hi_X5 : ∀ w ∈ u_ws RX5 TX5 7, w ∈ wsX5_isOpen := by decide +kernel
  have hl : lv_has ls 2 [(0, .ref (d 0)), (1, .int (nI r))] := hl
  refine lv_aload_n hx hb dX5_isOpen_0 rfl (lv_at hl 0 rfl) ?_
  refine va_get (D := g.1) (ci := 4) (v := .ref (d 1)) (C := RX5) (T := TX5) (N := 7) hx hb hts hi_X5 hown hK hP 0 rfl rfl 0 (by decide) fl_7 (fun _ h9 => h9) rfl dX5_isOpen_1 ?_
  refine lv_iload_n hx hb dX5_isOpen_4 rfl (lv_at hl 1 rfl) ?_
  refine q_S (As := [.int (nI r)]) (rest := [.ref (d 1)]) ⟨hx, hb, hml, hown, hts⟩ (c_X5_r l r ) (va_cwS 1 hts gX5_isOpen_X5_r rfl rfl rfl (by decide +kernel) ⟨Nat.le_of_ble_eq_true rfl, Nat.le_of_ble_eq_true rfl⟩) q_Blind_t (fun _ _ _ => trivial) rfl hl.1 rfl (Nat.le_of_ble_eq_true rfl) dX5_isOpen_5 (Nat.zero_le _) (Nat.zero_le _) ?_
  refine q_iald (j := (8 + 11 * r)) hx hb hK hP 1 0 rfl rfl (by omega) (by decide) dX5_isOpen_8 ?_
  refine q_reI (show (m_s M (8 + 11 * r) : Int32) = bI (!isOp S r) from cp_op hc (r := r) (by omega)) ?_
  refine lv_if_ne (tgt := 16) hx hb dX5_isOpen_9 (by decide) (fun c_9 => ?_) (fun c_9 => ?_)
  · skip
    have c_9 : (!isOp S r) = true := bI_ne c_9
    refine lv_iconst (v := 0) hx hb dX5_isOpen_16 (by decide) ?_
    exact q_zret hx hb hr hlk dX5_isOpen_17 (by simp at c_9; simp [bI, c_9])
  · skip
    have c_9 : (!isOp S r) = false := bI_eq c_9
    refine lv_iconst (v := 1) hx hb dX5_isOpen_12 (by decide) ?_
    refine lv_goto (tgt := 17) hx hb dX5_isOpen_13 (by decide) ?_
    exact q_zret hx hb hr hlk dX5_isOpen_17 (by simp at c_9; simp [bI, c_9])

set_option maxHeartbeats 4000000 in
set_option maxRecDepth 100000 in
theorem c_X5_trueMark (l : Launch) (g : q_G) (d : Nat → Nat) (M : q_MV) (S : q_St) (K : Nat) (hc : q_cp S (m_s M)) (ho : q_ok K S) (hK5 : K ≤ 512) (t : Nat) (r : Nat) (h1_ : t < 10) (h2_ : r < 8) (h3_ : hasS S t r = true) (h4_ : isOp S r = false) : q_PM l yX5_trueMark wsX5_trueMark { frames := 1, cells := 0, slots := 0, locals := 21 } [.ref (d 0), .int (nI t), .int (nI r)] (q_B g (q_mdW g d M)) (.int (truM S t r)) := by
  refine q_pm (cc := cX5_trueMark) (maxL := 6) (ret := (some .int)) (by decide) rfl (Nat.le_of_ble_eq_true rfl) ?_
  intro p e s m args below meth c ls hx hb hml hown hts hr hlk hB hl
  obtain ⟨hP, hK, hN⟩ := hB
  have hn10 := ok_n ho
  have fl_7 := hts (.fieldLink RX5 7 "PubQuizzesModel" "s" "[I") (by decide +kernel)
  have hi_X5 : ∀ w ∈ u_ws RX5 TX5 7, w ∈ wsX5_trueMark := by decide +kernel
  have hl : lv_has ls 6 [(0, .ref (d 0)), (1, .int (nI t)), (2, .int (nI r))] := hl
  refine lv_iconst (v := 0) hx hb dX5_trueMark_0 (by decide) ?_
  refine lv_istore_n (lv' := [(3, .int 0), (0, .ref (d 0)), (1, .int (nI t)), (2, .int (nI r))]) hx hb dX5_trueMark_1 rfl hl (by decide) rfl (fun ls hl => ?_)
  refine lv_iconst (v := 0) hx hb dX5_trueMark_2 (by decide) ?_
  refine lv_istore (lv' := [(4, .int 0), (3, .int 0), (0, .ref (d 0)), (1, .int (nI t)), (2, .int (nI r))]) hx hb dX5_trueMark_3 hl (by decide) rfl (fun ls hl => ?_)
  have L_5 : ∀ (fu i5 : Nat) (y3_5 : Int32), y3_5 = q_acc 0 (tmk (s_she S (t * 8 + r)) (s_key S r) (s_set S 2)) i5 → i5 ≤ 10 → 10 < i5 + fu → ∀ ls : Array Slot, lv_has ls 6 [(4, .int (nI i5)), (3, .int y3_5), (0, .ref (d 0)), (1, .int (nI t)), (2, .int (nI r))] → W p l e { frames := 1, cells := 0, slots := 0, locals := 21 } s m args below meth c s.heap [] 0 0 (MQ below (k2_QcV (.int (truM S t r))) args s 0 0 (fun _ => False)) (F0 m 5 ls []) := by
    intro fu
    induction fu with
    | zero => intro i5 y3_5 ey3_5 hi_i5 hn_i5; exact absurd hn_i5 (by omega)
    | succ fu ih_i5 =>
      intro i5 y3_5 ey3_5 hi_i5 hn_i5 ls hl
      subst ey3_5
      refine lv_iload hx hb dX5_trueMark_5 (lv_at hl 0 rfl) ?_
      refine lv_bipush (v := 10) hx hb dX5_trueMark_7 (by decide) ?_
      refine lv_icmp_ge (tgt := 77) hx hb dX5_trueMark_9 (by decide) (fun c_9 => ?_) (fun c_9 => ?_)
      · skip
        have e_9 : i5 = 10 := q_ge_T (by omega) hi_i5 c_9
        subst e_9
        refine lv_iload_n hx hb dX5_trueMark_77 rfl (lv_at hl 1 rfl) ?_
        exact q_iret hx hb hr hlk dX5_trueMark_78 (rfl)
      · skip
        have lt_i5 : i5 < 10 := q_ge_F (by omega) hi_i5 c_9
        refine lv_aload_n hx hb dX5_trueMark_12 rfl (lv_at hl 2 rfl) ?_
        refine va_get (D := g.1) (ci := 4) (v := .ref (d 1)) (C := RX5) (T := TX5) (N := 7) hx hb hts hi_X5 hown hK hP 0 rfl rfl 0 (by decide) fl_7 (fun _ h9 => h9) rfl dX5_trueMark_13 ?_
        refine lv_iload_n hx hb dX5_trueMark_16 rfl (lv_at hl 3 rfl) ?_
        refine lv_iload_n hx hb dX5_trueMark_17 rfl (lv_at hl 4 rfl) ?_
        refine q_S (As := [.int (nI t), .int (nI r)]) (rest := [.ref (d 1)]) ⟨hx, hb, hml, hown, hts⟩ (c_X5_h l t r ) (va_cwS 2 hts gX5_trueMark_X5_h rfl rfl rfl (by decide +kernel) ⟨Nat.le_of_ble_eq_true rfl, Nat.le_of_ble_eq_true rfl⟩) q_Blind_t (fun _ _ _ => trivial) rfl hl.1 rfl (Nat.le_of_ble_eq_true rfl) dX5_trueMark_18 (Nat.zero_le _) (Nat.zero_le _) ?_
        refine lv_iconst (v := 5) hx hb dX5_trueMark_21 (by decide) ?_
        refine lv_iadd hx hb dX5_trueMark_22 ?_
        refine q_reI (show (((nI (136 + 15 * (t * 8 + r))) + 5) : Int32) = nI (136 + 15 * (t * 8 + r) + 5) from nI_add _ _) ?_
        refine lv_iload hx hb dX5_trueMark_23 (lv_at hl 0 rfl) ?_
        refine lv_iadd hx hb dX5_trueMark_25 ?_
        refine q_reI (show (((nI (136 + 15 * (t * 8 + r) + 5)) + (nI i5)) : Int32) = nI (136 + 15 * (t * 8 + r) + 5 + i5) from nI_add _ _) ?_
        refine q_iald (j := (136 + 15 * (t * 8 + r) + 5 + i5)) hx hb hK hP 1 0 rfl rfl (by omega) (by decide) dX5_trueMark_26 ?_
        refine q_reI (show (m_s M (136 + 15 * (t * 8 + r) + 5 + i5) : Int32) = anI (sgn (s_she S (t * 8 + r)) i5) from cp_ans hc (k := i5) (t := t) (r := r) (by omega) (by omega) (by assumption) (by omega)) ?_
        refine lv_istore (lv' := [(5, .int (anI (sgn (s_she S (t * 8 + r)) i5))), (4, .int (nI i5)), (3, .int (q_acc 0 (tmk (s_she S (t * 8 + r)) (s_key S r) (s_set S 2)) i5)), (0, .ref (d 0)), (1, .int (nI t)), (2, .int (nI r))]) hx hb dX5_trueMark_27 hl (by decide) rfl (fun ls hl => ?_)
        refine lv_iload_n hx hb dX5_trueMark_29 rfl (lv_at hl 2 rfl) ?_
        refine lv_iload hx hb dX5_trueMark_30 (lv_at hl 0 rfl) ?_
        refine lv_if_ge (tgt := 39) hx hb dX5_trueMark_32 (by decide) (fun c_32 => ?_) (fun c_32 => ?_)
        · skip
          have han := an_ge (ok_she ho (t := t) (r := r) (k := i5) (by omega) (by omega) h3_ (by omega)) c_32
          have e15 := han.1
          refine lv_iload hx hb dX5_trueMark_39 (lv_at hl 0 rfl) ?_
          refine lv_aload_n hx hb dX5_trueMark_41 rfl (lv_at hl 3 rfl) ?_
          refine va_get (D := g.1) (ci := 4) (v := .ref (d 1)) (C := RX5) (T := TX5) (N := 7) hx hb hts hi_X5 hown hK hP 0 rfl rfl 0 (by decide) fl_7 (fun _ h9 => h9) rfl dX5_trueMark_42 ?_
          refine lv_iload_n hx hb dX5_trueMark_45 rfl (lv_at hl 5 rfl) ?_
          refine q_S (As := [.int (nI r)]) (rest := [.ref (d 1), .int (anI (sgn (s_she S (t * 8 + r)) i5)), .int (q_acc 0 (tmk (s_she S (t * 8 + r)) (s_key S r) (s_set S 2)) i5)]) ⟨hx, hb, hml, hown, hts⟩ (c_X5_r l r ) (va_cwS 1 hts gX5_trueMark_X5_r rfl rfl rfl (by decide +kernel) ⟨Nat.le_of_ble_eq_true rfl, Nat.le_of_ble_eq_true rfl⟩) q_Blind_t (fun _ _ _ => trivial) rfl hl.1 rfl (Nat.le_of_ble_eq_true rfl) dX5_trueMark_46 (Nat.zero_le _) (Nat.zero_le _) ?_
          refine lv_iconst (v := 1) hx hb dX5_trueMark_49 (by decide) ?_
          refine lv_iadd hx hb dX5_trueMark_50 ?_
          refine q_reI (show (((nI (8 + 11 * r)) + 1) : Int32) = nI (8 + 11 * r + 1) from nI_add _ _) ?_
          refine lv_iload hx hb dX5_trueMark_51 (lv_at hl 1 rfl) ?_
          refine lv_iadd hx hb dX5_trueMark_53 ?_
          refine q_reI (show (((nI (8 + 11 * r + 1)) + (nI i5)) : Int32) = nI (8 + 11 * r + 1 + i5) from nI_add _ _) ?_
          refine q_iald (j := (8 + 11 * r + 1 + i5)) hx hb hK hP 1 0 rfl rfl (by omega) (by decide) dX5_trueMark_54 ?_
          refine q_reI (show (m_s M (8 + 11 * r + 1 + i5) : Int32) = sgn (s_key S r) i5 from cp_key hc (r := r) (k := i5) (by omega) (by assumption) (by omega)) ?_
          refine lv_icmp_ne (tgt := 62) hx hb dX5_trueMark_55 (by decide) (fun c_55 => ?_) (fun c_55 => ?_)
          · skip
            rw [han.2] at c_55
            refine lv_aload_n hx hb dX5_trueMark_62 rfl (lv_at hl 3 rfl) ?_
            refine va_get (D := g.1) (ci := 4) (v := .ref (d 1)) (C := RX5) (T := TX5) (N := 7) hx hb hts hi_X5 hown hK hP 0 rfl rfl 0 (by decide) fl_7 (fun _ h9 => h9) rfl dX5_trueMark_63 ?_
            refine lv_iconst (v := 2) hx hb dX5_trueMark_66 (by decide) ?_
            refine q_iald (j := 2) hx hb hK hP 1 0 rfl rfl (by omega) (by decide) dX5_trueMark_67 ?_
            refine q_reI (show (m_s M 2 : Int32) = s_set S 2 from cp_set hc (k := 2) (by omega)) ?_
            refine lv_ineg hx hb dX5_trueMark_68 ?_
            refine lv_iadd hx hb dX5_trueMark_69 ?_
            refine lv_istore_n (lv' := [(3, .int ((q_acc 0 (tmk (s_she S (t * 8 + r)) (s_key S r) (s_set S 2)) i5) + (-(s_set S 2)))), (5, .int (anI (sgn (s_she S (t * 8 + r)) i5))), (4, .int (nI i5)), (0, .ref (d 0)), (1, .int (nI t)), (2, .int (nI r))]) hx hb dX5_trueMark_70 rfl hl (by decide) rfl (fun ls hl => ?_)
            refine lv_iinc (v := nI (i5 + 1)) (lv' := [(4, .int (nI (i5 + 1))), (3, .int ((q_acc 0 (tmk (s_she S (t * 8 + r)) (s_key S r) (s_set S 2)) i5) + (-(s_set S 2)))), (5, .int (anI (sgn (s_she S (t * 8 + r)) i5))), (0, .ref (d 0)), (1, .int (nI t)), (2, .int (nI r))]) hx hb dX5_trueMark_71 hl (k := 2) rfl (nI_1 _) (by decide) rfl (fun ls hl => ?_)
            refine lv_goto (tgt := 5) hx hb dX5_trueMark_74 (by decide) ?_
            exact ih_i5 (i5 + 1) ((q_acc 0 (tmk (s_she S (t * 8 + r)) (s_key S r) (s_set S 2)) i5) + (-(s_set S 2))) (by first | (simp only [q_acc, tmk, if_pos c_55]; done) | (simp only [q_acc, tmk, if_neg c_55, if_neg e15]; done) | (simp only [q_acc, tmk, if_neg e16, if_pos e15]; done)) lt_i5 (by omega) ls (lv_sub hl [0, 1, 3, 4, 5] rfl)
          · skip
            rw [han.2] at c_55
            refine lv_iconst (v := 1) hx hb dX5_trueMark_58 (by decide) ?_
            refine lv_goto (tgt := 69) hx hb dX5_trueMark_59 (by decide) ?_
            refine lv_iadd hx hb dX5_trueMark_69 ?_
            refine lv_istore_n (lv' := [(3, .int ((q_acc 0 (tmk (s_she S (t * 8 + r)) (s_key S r) (s_set S 2)) i5) + 1)), (5, .int (anI (sgn (s_she S (t * 8 + r)) i5))), (4, .int (nI i5)), (0, .ref (d 0)), (1, .int (nI t)), (2, .int (nI r))]) hx hb dX5_trueMark_70 rfl hl (by decide) rfl (fun ls hl => ?_)
            refine lv_iinc (v := nI (i5 + 1)) (lv' := [(4, .int (nI (i5 + 1))), (3, .int ((q_acc 0 (tmk (s_she S (t * 8 + r)) (s_key S r) (s_set S 2)) i5) + 1)), (5, .int (anI (sgn (s_she S (t * 8 + r)) i5))), (0, .ref (d 0)), (1, .int (nI t)), (2, .int (nI r))]) hx hb dX5_trueMark_71 hl (k := 2) rfl (nI_1 _) (by decide) rfl (fun ls hl => ?_)
            refine lv_goto (tgt := 5) hx hb dX5_trueMark_74 (by decide) ?_
            exact ih_i5 (i5 + 1) ((q_acc 0 (tmk (s_she S (t * 8 + r)) (s_key S r) (s_set S 2)) i5) + 1) (by first | (simp only [q_acc, tmk, if_pos c_55]; done) | (simp only [q_acc, tmk, if_neg c_55, if_neg e15]; done) | (simp only [q_acc, tmk, if_neg e16, if_pos e15]; done)) lt_i5 (by omega) ls (lv_sub hl [0, 1, 3, 4, 5] rfl)
        · skip
          have e15 := an_lt (ok_she ho (t := t) (r := r) (k := i5) (by omega) (by omega) h3_ (by omega)) c_32
          obtain ⟨dk, hdk, edk⟩ := ok_key ho (r := r) (k := i5) (by omega) h4_ (by omega)
          have e16 : ¬ sgn (s_she S (t * 8 + r)) i5 = sgn (s_key S r) i5 := by rw [e15, edk]; exact fun q => by have := (nI_eq (a := 15) (b := dk) (by decide) (by omega)).mp q; omega
          refine lv_iconst (v := 0) hx hb dX5_trueMark_35 (by decide) ?_
          refine lv_goto (tgt := 69) hx hb dX5_trueMark_36 (by decide) ?_
          refine lv_iadd hx hb dX5_trueMark_69 ?_
          refine lv_istore_n (lv' := [(3, .int ((q_acc 0 (tmk (s_she S (t * 8 + r)) (s_key S r) (s_set S 2)) i5) + 0)), (5, .int (anI (sgn (s_she S (t * 8 + r)) i5))), (4, .int (nI i5)), (0, .ref (d 0)), (1, .int (nI t)), (2, .int (nI r))]) hx hb dX5_trueMark_70 rfl hl (by decide) rfl (fun ls hl => ?_)
          refine lv_iinc (v := nI (i5 + 1)) (lv' := [(4, .int (nI (i5 + 1))), (3, .int ((q_acc 0 (tmk (s_she S (t * 8 + r)) (s_key S r) (s_set S 2)) i5) + 0)), (5, .int (anI (sgn (s_she S (t * 8 + r)) i5))), (0, .ref (d 0)), (1, .int (nI t)), (2, .int (nI r))]) hx hb dX5_trueMark_71 hl (k := 2) rfl (nI_1 _) (by decide) rfl (fun ls hl => ?_)
          refine lv_goto (tgt := 5) hx hb dX5_trueMark_74 (by decide) ?_
          exact ih_i5 (i5 + 1) ((q_acc 0 (tmk (s_she S (t * 8 + r)) (s_key S r) (s_set S 2)) i5) + 0) (by first | (simp only [q_acc, tmk, if_pos c_55]; done) | (simp only [q_acc, tmk, if_neg c_55, if_neg e15]; done) | (simp only [q_acc, tmk, if_neg e16, if_pos e15]; done)) lt_i5 (by omega) ls (lv_sub hl [0, 1, 3, 4, 5] rfl)
  exact L_5 (10 + 1) 0 0 (rfl) (Nat.zero_le _) (by omega) ls (lv_sub hl [0, 1, 2, 3, 4] rfl)

set_option maxHeartbeats 4000000 in
set_option maxRecDepth 100000 in
theorem c_X5_markOf (l : Launch) (g : q_G) (d : Nat → Nat) (M : q_MV) (S : q_St) (K : Nat) (hc : q_cp S (m_s M)) (ho : q_ok K S) (hK5 : K ≤ 512) (t : Nat) (r : Nat) (h1_ : t < 10) (h2_ : r < 8) : q_PM l yX5_markOf wsX5_markOf { frames := 1, cells := 0, slots := 0, locals := 21 } [.ref (d 0), .int (nI t), .int (nI r)] (q_B g (q_mdW g d M)) (.int (mkvS S t r)) := by
  refine q_pm (cc := cX5_markOf) (maxL := 4) (ret := (some .int)) (by decide) rfl (Nat.le_of_ble_eq_true rfl) ?_
  intro p e s m args below meth c ls hx hb hml hown hts hr hlk hB hl
  obtain ⟨hP, hK, hN⟩ := hB
  have hn10 := ok_n ho
  have fl_7 := hts (.fieldLink RX5 7 "PubQuizzesModel" "s" "[I") (by decide +kernel)
  have hi_X5 : ∀ w ∈ u_ws RX5 TX5 7, w ∈ wsX5_markOf := by decide +kernel
  have hl : lv_has ls 4 [(0, .ref (d 0)), (1, .int (nI t)), (2, .int (nI r))] := hl
  refine lv_iload_n hx hb dX5_markOf_0 rfl (lv_at hl 1 rfl) ?_
  refine lv_iload_n hx hb dX5_markOf_1 rfl (lv_at hl 2 rfl) ?_
  refine q_S (As := [.int (nI t), .int (nI r)]) (rest := []) ⟨hx, hb, hml, hown, hts⟩ (c_X5_h l t r ) (va_cwS 2 hts gX5_markOf_X5_h rfl rfl rfl (by decide +kernel) ⟨Nat.le_of_ble_eq_true rfl, Nat.le_of_ble_eq_true rfl⟩) q_Blind_t (fun _ _ _ => trivial) rfl hl.1 rfl (Nat.le_of_ble_eq_true rfl) dX5_markOf_2 (Nat.zero_le _) (Nat.zero_le _) ?_
  refine lv_istore_n (lv' := [(3, .int (nI (136 + 15 * (t * 8 + r)))), (0, .ref (d 0)), (1, .int (nI t)), (2, .int (nI r))]) hx hb dX5_markOf_5 rfl hl (by decide) rfl (fun ls hl => ?_)
  refine lv_aload_n hx hb dX5_markOf_6 rfl (lv_at hl 1 rfl) ?_
  refine va_get (D := g.1) (ci := 4) (v := .ref (d 1)) (C := RX5) (T := TX5) (N := 7) hx hb hts hi_X5 hown hK hP 0 rfl rfl 0 (by decide) fl_7 (fun _ h9 => h9) rfl dX5_markOf_7 ?_
  refine lv_iload_n hx hb dX5_markOf_10 rfl (lv_at hl 0 rfl) ?_
  refine lv_iconst (v := 0) hx hb dX5_markOf_11 (by decide) ?_
  refine lv_iadd hx hb dX5_markOf_12 ?_
  refine q_reI (show (((nI (136 + 15 * (t * 8 + r))) + 0) : Int32) = nI (136 + 15 * (t * 8 + r) + 0) from nI_add _ _) ?_
  refine q_iald (j := (136 + 15 * (t * 8 + r) + 0)) hx hb hK hP 1 0 rfl rfl (by omega) (by decide) dX5_markOf_13 ?_
  refine q_reI (show (m_s M (136 + 15 * (t * 8 + r) + 0) : Int32) = bI (hasS S t r) from cp_has hc (t := t) (r := r) (by omega) (by omega)) ?_
  refine lv_iconst (v := 1) hx hb dX5_markOf_14 (by decide) ?_
  refine lv_icmp_ne (tgt := 41) hx hb dX5_markOf_15 (by decide) (fun c_15 => ?_) (fun c_15 => ?_)
  · skip
    have c_15 : (hasS S t r) = false := bI_n1 c_15
    have hnt := ok_ntl ho (t := t) (r := r) (by omega) (by omega) c_15
    refine lv_iconst (v := 0) hx hb dX5_markOf_41 (by decide) ?_
    exact q_iret hx hb hr hlk dX5_markOf_42 (by first | (simp [mkvS, c_27]; done) | simp [mkvS, hnt])
  · skip
    have c_15 : (hasS S t r) = true := bI_e1 c_15
    refine lv_aload_n hx hb dX5_markOf_18 rfl (lv_at hl 1 rfl) ?_
    refine va_get (D := g.1) (ci := 4) (v := .ref (d 1)) (C := RX5) (T := TX5) (N := 7) hx hb hts hi_X5 hown hK hP 0 rfl rfl 0 (by decide) fl_7 (fun _ h9 => h9) rfl dX5_markOf_19 ?_
    refine lv_iload_n hx hb dX5_markOf_22 rfl (lv_at hl 0 rfl) ?_
    refine lv_iconst (v := 1) hx hb dX5_markOf_23 (by decide) ?_
    refine lv_iadd hx hb dX5_markOf_24 ?_
    refine q_reI (show (((nI (136 + 15 * (t * 8 + r))) + 1) : Int32) = nI (136 + 15 * (t * 8 + r) + 1) from nI_add _ _) ?_
    refine q_iald (j := (136 + 15 * (t * 8 + r) + 1)) hx hb hK hP 1 0 rfl rfl (by omega) (by decide) dX5_markOf_25 ?_
    refine q_reI (show (m_s M (136 + 15 * (t * 8 + r) + 1) : Int32) = bI (tldS S t r) from cp_tld hc (t := t) (r := r) (by omega) (by omega)) ?_
    refine lv_iconst (v := 1) hx hb dX5_markOf_26 (by decide) ?_
    refine lv_icmp_ne (tgt := 41) hx hb dX5_markOf_27 (by decide) (fun c_27 => ?_) (fun c_27 => ?_)
    · skip
      have c_27 : (tldS S t r) = false := bI_n1 c_27
      refine lv_iconst (v := 0) hx hb dX5_markOf_41 (by decide) ?_
      exact q_iret hx hb hr hlk dX5_markOf_42 (by first | (simp [mkvS, c_27]; done) | simp [mkvS, hnt])
    · skip
      have c_27 : (tldS S t r) = true := bI_e1 c_27
      refine lv_aload_n hx hb dX5_markOf_30 rfl (lv_at hl 1 rfl) ?_
      refine va_get (D := g.1) (ci := 4) (v := .ref (d 1)) (C := RX5) (T := TX5) (N := 7) hx hb hts hi_X5 hown hK hP 0 rfl rfl 0 (by decide) fl_7 (fun _ h9 => h9) rfl dX5_markOf_31 ?_
      refine lv_iload_n hx hb dX5_markOf_34 rfl (lv_at hl 0 rfl) ?_
      refine lv_iconst (v := 2) hx hb dX5_markOf_35 (by decide) ?_
      refine lv_iadd hx hb dX5_markOf_36 ?_
      refine q_reI (show (((nI (136 + 15 * (t * 8 + r))) + 2) : Int32) = nI (136 + 15 * (t * 8 + r) + 2) from nI_add _ _) ?_
      refine q_iald (j := (136 + 15 * (t * 8 + r) + 2)) hx hb hK hP 1 0 rfl rfl (by omega) (by decide) dX5_markOf_37 ?_
      refine q_reI (show (m_s M (136 + 15 * (t * 8 + r) + 2) : Int32) = s_mar S (t * 8 + r) from cp_mar hc (t := t) (r := r) (by omega) (by omega) (by assumption)) ?_
      refine lv_goto (tgt := 42) hx hb dX5_markOf_38 (by decide) ?_
      exact q_iret hx hb hr hlk dX5_markOf_42 (by first | (simp [mkvS, c_27]; done) | simp [mkvS, hnt])

set_option maxHeartbeats 4000000 in
set_option maxRecDepth 100000 in
theorem c_X5_points (l : Launch) (g : q_G) (d : Nat → Nat) (M : q_MV) (S : q_St) (K : Nat) (hc : q_cp S (m_s M)) (ho : q_ok K S) (hK5 : K ≤ 512) (t : Nat) (r : Nat) (h1_ : t < 10) (h2_ : r < 8) : q_PM l yX5_points wsX5_points { frames := 2, cells := 0, slots := 0, locals := 44 } [.ref (d 0), .int (nI t), .int (nI r)] (q_B g (q_mdW g d M)) (.int (ptsS S t r)) := by
  refine q_pm (cc := cX5_points) (maxL := 3) (ret := (some .int)) (by decide) rfl (Nat.le_of_ble_eq_true rfl) ?_
  intro p e s m args below meth c ls hx hb hml hown hts hr hlk hB hl
  obtain ⟨hP, hK, hN⟩ := hB
  have hn10 := ok_n ho
  have fl_7 := hts (.fieldLink RX5 7 "PubQuizzesModel" "s" "[I") (by decide +kernel)
  have hi_X5 : ∀ w ∈ u_ws RX5 TX5 7, w ∈ wsX5_points := by decide +kernel
  have hl : lv_has ls 3 [(0, .ref (d 0)), (1, .int (nI t)), (2, .int (nI r))] := hl
  refine lv_aload_n hx hb dX5_points_0 rfl (lv_at hl 0 rfl) ?_
  refine lv_iload_n hx hb dX5_points_1 rfl (lv_at hl 1 rfl) ?_
  refine lv_iload_n hx hb dX5_points_2 rfl (lv_at hl 2 rfl) ?_
  refine q_V (As := [.int (nI t), .int (nI r)]) (rest := []) ⟨hx, hb, hml, hown, hts⟩ (c_X5_markOf l g d M S K hc ho hK5 t r (by omega) (by omega)) (cwV 2 hts gX5_points_X5_markOf rfl rfl rfl (by decide +kernel) ⟨Nat.le_of_ble_eq_true rfl, Nat.le_of_ble_eq_true rfl⟩) q_B_blind (va_recv hK hP (ci := 4) (q0 := 0) rfl rfl) (q_B_of hP hK hN) rfl hl.1 rfl (Nat.le_of_ble_eq_true rfl) dX5_points_3 (Nat.zero_le _) (Nat.zero_le _) ?_
  refine lv_aload_n hx hb dX5_points_6 rfl (lv_at hl 0 rfl) ?_
  refine va_get (D := g.1) (ci := 4) (v := .ref (d 1)) (C := RX5) (T := TX5) (N := 7) hx hb hts hi_X5 hown hK hP 0 rfl rfl 0 (by decide) fl_7 (fun _ h9 => h9) rfl dX5_points_7 ?_
  refine lv_iload_n hx hb dX5_points_10 rfl (lv_at hl 1 rfl) ?_
  refine q_S (As := [.int (nI t)]) (rest := [.ref (d 1), .int (mkvS S t r)]) ⟨hx, hb, hml, hown, hts⟩ (c_X5_t l t ) (va_cwS 1 hts gX5_points_X5_t rfl rfl rfl (by decide +kernel) ⟨Nat.le_of_ble_eq_true rfl, Nat.le_of_ble_eq_true rfl⟩) q_Blind_t (fun _ _ _ => trivial) rfl hl.1 rfl (Nat.le_of_ble_eq_true rfl) dX5_points_11 (Nat.zero_le _) (Nat.zero_le _) ?_
  refine lv_iconst (v := 1) hx hb dX5_points_14 (by decide) ?_
  refine lv_iadd hx hb dX5_points_15 ?_
  refine q_reI (show (((nI (96 + 4 * t)) + 1) : Int32) = nI (96 + 4 * t + 1) from nI_add _ _) ?_
  refine q_iald (j := (96 + 4 * t + 1)) hx hb hK hP 1 0 rfl rfl (by omega) (by decide) dX5_points_16 ?_
  refine q_reI (show (m_s M (96 + 4 * t + 1) : Int32) = jkI (s_jok S t) from cp_jok hc (t := t) (by omega)) ?_
  refine lv_iload_n hx hb dX5_points_17 rfl (lv_at hl 2 rfl) ?_
  refine lv_iconst (v := 1) hx hb dX5_points_18 (by decide) ?_
  refine lv_iadd hx hb dX5_points_19 ?_
  refine q_reI (show (((nI r) + 1) : Int32) = nI (r + 1) from nI_add _ _) ?_
  refine lv_icmp_ne (tgt := 27) hx hb dX5_points_20 (by decide) (fun c_20 => ?_) (fun c_20 => ?_)
  · skip
    have c_20 := jk_f (by omega) c_20
    refine lv_iconst (v := 1) hx hb dX5_points_27 (by decide) ?_
    refine lv_imul hx hb dX5_points_28 ?_
    exact q_iret hx hb hr hlk dX5_points_29 (by first | exact pts_2 c_20 | exact pts_1 c_20)
  · skip
    have c_20 := jk_t (ok_jok ho (t := t) (by omega)) (by omega) c_20
    refine lv_iconst (v := 2) hx hb dX5_points_23 (by decide) ?_
    refine lv_goto (tgt := 28) hx hb dX5_points_24 (by decide) ?_
    refine lv_imul hx hb dX5_points_28 ?_
    exact q_iret hx hb hr hlk dX5_points_29 (by first | exact pts_2 c_20 | exact pts_1 c_20)

set_option maxHeartbeats 4000000 in
set_option maxRecDepth 100000 in
theorem c_X5_score (l : Launch) (g : q_G) (d : Nat → Nat) (M : q_MV) (S : q_St) (K : Nat) (hc : q_cp S (m_s M)) (ho : q_ok K S) (hK5 : K ≤ 512) (t : Nat) (h1_ : t < 10) : q_PM l yX5_score wsX5_score { frames := 3, cells := 0, slots := 0, locals := 66 } [.ref (d 0), .int (nI t)] (q_B g (q_mdW g d M)) (.int (scoS S t)) := by
  refine q_pm (cc := cX5_score) (maxL := 4) (ret := (some .int)) (by decide) rfl (Nat.le_of_ble_eq_true rfl) ?_
  intro p e s m args below meth c ls hx hb hml hown hts hr hlk hB hl
  obtain ⟨hP, hK, hN⟩ := hB
  have hn10 := ok_n ho
  have fl_7 := hts (.fieldLink RX5 7 "PubQuizzesModel" "s" "[I") (by decide +kernel)
  have hi_X5 : ∀ w ∈ u_ws RX5 TX5 7, w ∈ wsX5_score := by decide +kernel
  have hl : lv_has ls 4 [(0, .ref (d 0)), (1, .int (nI t))] := hl
  refine lv_aload_n hx hb dX5_score_0 rfl (lv_at hl 0 rfl) ?_
  refine va_get (D := g.1) (ci := 4) (v := .ref (d 1)) (C := RX5) (T := TX5) (N := 7) hx hb hts hi_X5 hown hK hP 0 rfl rfl 0 (by decide) fl_7 (fun _ h9 => h9) rfl dX5_score_1 ?_
  refine lv_iconst (v := 3) hx hb dX5_score_4 (by decide) ?_
  refine q_iald (j := 3) hx hb hK hP 1 0 rfl rfl (by omega) (by decide) dX5_score_5 ?_
  refine q_reI (show (m_s M 3 : Int32) = s_set S 3 from cp_set hc (k := 3) (by omega)) ?_
  refine lv_ineg hx hb dX5_score_6 ?_
  refine lv_aload_n hx hb dX5_score_7 rfl (lv_at hl 0 rfl) ?_
  refine va_get (D := g.1) (ci := 4) (v := .ref (d 1)) (C := RX5) (T := TX5) (N := 7) hx hb hts hi_X5 hown hK hP 0 rfl rfl 0 (by decide) fl_7 (fun _ h9 => h9) rfl dX5_score_8 ?_
  refine lv_iload_n hx hb dX5_score_11 rfl (lv_at hl 1 rfl) ?_
  refine q_S (As := [.int (nI t)]) (rest := [.ref (d 1), .int (-(s_set S 3))]) ⟨hx, hb, hml, hown, hts⟩ (c_X5_t l t ) (va_cwS 1 hts gX5_score_X5_t rfl rfl rfl (by decide +kernel) ⟨Nat.le_of_ble_eq_true rfl, Nat.le_of_ble_eq_true rfl⟩) q_Blind_t (fun _ _ _ => trivial) rfl hl.1 rfl (Nat.le_of_ble_eq_true rfl) dX5_score_12 (Nat.zero_le _) (Nat.zero_le _) ?_
  refine lv_iconst (v := 2) hx hb dX5_score_15 (by decide) ?_
  refine lv_iadd hx hb dX5_score_16 ?_
  refine q_reI (show (((nI (96 + 4 * t)) + 2) : Int32) = nI (96 + 4 * t + 2) from nI_add _ _) ?_
  refine q_iald (j := (96 + 4 * t + 2)) hx hb hK hP 1 0 rfl rfl (by omega) (by decide) dX5_score_17 ?_
  refine q_reI (show (m_s M (96 + 4 * t + 2) : Int32) = s_fin S t from cp_fin hc (t := t) (by omega)) ?_
  refine lv_imul hx hb dX5_score_18 ?_
  refine lv_istore_n (lv' := [(2, .int ((-(s_set S 3)) * (s_fin S t))), (0, .ref (d 0)), (1, .int (nI t))]) hx hb dX5_score_19 rfl hl (by decide) rfl (fun ls hl => ?_)
  refine lv_iconst (v := 0) hx hb dX5_score_20 (by decide) ?_
  refine lv_istore_n (lv' := [(3, .int 0), (2, .int ((-(s_set S 3)) * (s_fin S t))), (0, .ref (d 0)), (1, .int (nI t))]) hx hb dX5_score_21 rfl hl (by decide) rfl (fun ls hl => ?_)
  have L_22 : ∀ (fu i22 : Nat) (y2_22 : Int32), y2_22 = q_acc (fineS S t) (ptsS S t) i22 → i22 ≤ 8 → 8 < i22 + fu → ∀ ls : Array Slot, lv_has ls 4 [(3, .int (nI i22)), (2, .int y2_22), (0, .ref (d 0)), (1, .int (nI t))] → W p l e { frames := 3, cells := 0, slots := 0, locals := 66 } s m args below meth c s.heap [] 0 0 (MQ below (k2_QcV (.int (scoS S t))) args s 0 0 (fun _ => False)) (F0 m 22 ls []) := by
    intro fu
    induction fu with
    | zero => intro i22 y2_22 ey2_22 hi_i22 hn_i22; exact absurd hn_i22 (by omega)
    | succ fu ih_i22 =>
      intro i22 y2_22 ey2_22 hi_i22 hn_i22 ls hl
      subst ey2_22
      refine lv_iload_n hx hb dX5_score_22 rfl (lv_at hl 0 rfl) ?_
      refine lv_bipush (v := 8) hx hb dX5_score_23 (by decide) ?_
      refine lv_icmp_ge (tgt := 43) hx hb dX5_score_25 (by decide) (fun c_25 => ?_) (fun c_25 => ?_)
      · skip
        have e_25 : i22 = 8 := q_ge_T (by omega) hi_i22 c_25
        subst e_25
        refine lv_iload_n hx hb dX5_score_43 rfl (lv_at hl 1 rfl) ?_
        exact q_iret hx hb hr hlk dX5_score_44 (rfl)
      · skip
        have lt_i22 : i22 < 8 := q_ge_F (by omega) hi_i22 c_25
        refine lv_iload_n hx hb dX5_score_28 rfl (lv_at hl 1 rfl) ?_
        refine lv_aload_n hx hb dX5_score_29 rfl (lv_at hl 2 rfl) ?_
        refine lv_iload_n hx hb dX5_score_30 rfl (lv_at hl 3 rfl) ?_
        refine lv_iload_n hx hb dX5_score_31 rfl (lv_at hl 0 rfl) ?_
        refine q_V (As := [.int (nI t), .int (nI i22)]) (rest := [.int (q_acc (fineS S t) (ptsS S t) i22)]) ⟨hx, hb, hml, hown, hts⟩ (c_X5_points l g d M S K hc ho hK5 t i22 (by omega) (by omega)) (cwV 2 hts gX5_score_X5_points rfl rfl rfl (by decide +kernel) ⟨Nat.le_of_ble_eq_true rfl, Nat.le_of_ble_eq_true rfl⟩) q_B_blind (va_recv hK hP (ci := 4) (q0 := 0) rfl rfl) (q_B_of hP hK hN) rfl hl.1 rfl (Nat.le_of_ble_eq_true rfl) dX5_score_32 (Nat.zero_le _) (Nat.zero_le _) ?_
        refine lv_iadd hx hb dX5_score_35 ?_
        refine lv_istore_n (lv' := [(2, .int ((q_acc (fineS S t) (ptsS S t) i22) + (ptsS S t i22))), (3, .int (nI i22)), (0, .ref (d 0)), (1, .int (nI t))]) hx hb dX5_score_36 rfl hl (by decide) rfl (fun ls hl => ?_)
        refine lv_iinc (v := nI (i22 + 1)) (lv' := [(3, .int (nI (i22 + 1))), (2, .int ((q_acc (fineS S t) (ptsS S t) i22) + (ptsS S t i22))), (0, .ref (d 0)), (1, .int (nI t))]) hx hb dX5_score_37 hl (k := 1) rfl (nI_1 _) (by decide) rfl (fun ls hl => ?_)
        refine lv_goto (tgt := 22) hx hb dX5_score_40 (by decide) ?_
        exact ih_i22 (i22 + 1) ((q_acc (fineS S t) (ptsS S t) i22) + (ptsS S t i22)) (by first | (simp [q_acc, q_or, q_cnt, q_any, nI_1, bI_t]; done) | rfl) lt_i22 (by omega) ls (lv_sub hl [0, 1, 2, 3] rfl)
  exact L_22 (8 + 1) 0 ((-(s_set S 3)) * (s_fin S t)) (rfl) (Nat.zero_le _) (by omega) ls (lv_sub hl [0, 1, 2, 3] rfl)

set_option maxHeartbeats 4000000 in
set_option maxRecDepth 100000 in
theorem c_X5_far (l : Launch) (g : q_G) (d : Nat → Nat) (M : q_MV) (S : q_St) (K : Nat) (hc : q_cp S (m_s M)) (ho : q_ok K S) (hK5 : K ≤ 512) (t : Nat) (h1_ : t < 10) (h2_ : ¬ s_tru S = -6) : q_PM l yX5_far wsX5_far { frames := 1, cells := 0, slots := 0, locals := 20 } [.ref (d 0), .int (nI t)] (q_B g (q_mdW g d M)) (.int (farS S t)) := by
  refine q_pm (cc := cX5_far) (maxL := 3) (ret := (some .int)) (by decide) rfl (Nat.le_of_ble_eq_true rfl) ?_
  intro p e s m args below meth c ls hx hb hml hown hts hr hlk hB hl
  obtain ⟨hP, hK, hN⟩ := hB
  have hn10 := ok_n ho
  have fl_7 := hts (.fieldLink RX5 7 "PubQuizzesModel" "s" "[I") (by decide +kernel)
  have hi_X5 : ∀ w ∈ u_ws RX5 TX5 7, w ∈ wsX5_far := by decide +kernel
  have hl : lv_has ls 3 [(0, .ref (d 0)), (1, .int (nI t))] := hl
  refine lv_aload_n hx hb dX5_far_0 rfl (lv_at hl 0 rfl) ?_
  refine va_get (D := g.1) (ci := 4) (v := .ref (d 1)) (C := RX5) (T := TX5) (N := 7) hx hb hts hi_X5 hown hK hP 0 rfl rfl 0 (by decide) fl_7 (fun _ h9 => h9) rfl dX5_far_1 ?_
  refine lv_iload_n hx hb dX5_far_4 rfl (lv_at hl 1 rfl) ?_
  refine q_S (As := [.int (nI t)]) (rest := [.ref (d 1)]) ⟨hx, hb, hml, hown, hts⟩ (c_X5_t l t ) (va_cwS 1 hts gX5_far_X5_t rfl rfl rfl (by decide +kernel) ⟨Nat.le_of_ble_eq_true rfl, Nat.le_of_ble_eq_true rfl⟩) q_Blind_t (fun _ _ _ => trivial) rfl hl.1 rfl (Nat.le_of_ble_eq_true rfl) dX5_far_5 (Nat.zero_le _) (Nat.zero_le _) ?_
  refine lv_iconst (v := 3) hx hb dX5_far_8 (by decide) ?_
  refine lv_iadd hx hb dX5_far_9 ?_
  refine q_reI (show (((nI (96 + 4 * t)) + 3) : Int32) = nI (96 + 4 * t + 3) from nI_add _ _) ?_
  refine q_iald (j := (96 + 4 * t + 3)) hx hb hK hP 1 0 rfl rfl (by omega) (by decide) dX5_far_10 ?_
  refine q_reI (show (m_s M (96 + 4 * t + 3) : Int32) = jkI (s_gue S t) from cp_gue hc (t := t) (by omega)) ?_
  refine lv_iconst (v := 1) hx hb dX5_far_11 (by decide) ?_
  refine lv_isub hx hb dX5_far_12 ?_
  refine q_reI (jk_m _) ?_
  refine lv_istore_n (lv' := [(2, .int (jm (s_gue S t))), (0, .ref (d 0)), (1, .int (nI t))]) hx hb dX5_far_13 rfl hl (by decide) rfl (fun ls hl => ?_)
  refine lv_iload_n hx hb dX5_far_14 rfl (lv_at hl 0 rfl) ?_
  refine lv_if_ge (tgt := 23) hx hb dX5_far_15 (by decide) (fun c_15 => ?_) (fun c_15 => ?_)
  · skip
    have e6 := jm_ge c_15
    rw [jm_n e6] at hl
    refine lv_iload_n hx hb dX5_far_23 rfl (lv_at hl 0 rfl) ?_
    refine lv_aload_n hx hb dX5_far_24 rfl (lv_at hl 1 rfl) ?_
    refine va_get (D := g.1) (ci := 4) (v := .ref (d 1)) (C := RX5) (T := TX5) (N := 7) hx hb hts hi_X5 hown hK hP 0 rfl rfl 0 (by decide) fl_7 (fun _ h9 => h9) rfl dX5_far_25 ?_
    refine lv_bipush (v := 6) hx hb dX5_far_28 (by decide) ?_
    refine q_iald (j := 6) hx hb hK hP 1 0 rfl rfl (by omega) (by decide) dX5_far_30 ?_
    refine q_reI (show (m_s M 6 : Int32) = s_tru S from cp_tru hc (by assumption)) ?_
    refine lv_icmp_le (tgt := 46) hx hb dX5_far_31 (by decide) (fun c_31 => ?_) (fun c_31 => ?_)
    · skip
      refine lv_aload_n hx hb dX5_far_46 rfl (lv_at hl 1 rfl) ?_
      refine va_get (D := g.1) (ci := 4) (v := .ref (d 1)) (C := RX5) (T := TX5) (N := 7) hx hb hts hi_X5 hown hK hP 0 rfl rfl 0 (by decide) fl_7 (fun _ h9 => h9) rfl dX5_far_47 ?_
      refine lv_bipush (v := 6) hx hb dX5_far_50 (by decide) ?_
      refine q_iald (j := 6) hx hb hK hP 1 0 rfl rfl (by omega) (by decide) dX5_far_52 ?_
      refine q_reI (show (m_s M 6 : Int32) = s_tru S from cp_tru hc (by assumption)) ?_
      refine lv_iload_n hx hb dX5_far_53 rfl (lv_at hl 0 rfl) ?_
      refine lv_isub hx hb dX5_far_54 ?_
      exact q_iret hx hb hr hlk dX5_far_55 (by first | (simp only [farS, if_pos e6]; done) | (simp only [farS, if_neg e6, if_neg c_31]; done) | (simp only [farS, if_neg e6]; rw [if_pos (Int32.not_le.mp c_31)]) | (simp only [farS, if_neg e6]; rw [if_neg (Int32.not_lt.mpr c_31)]))
    · skip
      refine lv_iload_n hx hb dX5_far_34 rfl (lv_at hl 0 rfl) ?_
      refine lv_aload_n hx hb dX5_far_35 rfl (lv_at hl 1 rfl) ?_
      refine va_get (D := g.1) (ci := 4) (v := .ref (d 1)) (C := RX5) (T := TX5) (N := 7) hx hb hts hi_X5 hown hK hP 0 rfl rfl 0 (by decide) fl_7 (fun _ h9 => h9) rfl dX5_far_36 ?_
      refine lv_bipush (v := 6) hx hb dX5_far_39 (by decide) ?_
      refine q_iald (j := 6) hx hb hK hP 1 0 rfl rfl (by omega) (by decide) dX5_far_41 ?_
      refine q_reI (show (m_s M 6 : Int32) = s_tru S from cp_tru hc (by assumption)) ?_
      refine lv_isub hx hb dX5_far_42 ?_
      refine lv_goto (tgt := 55) hx hb dX5_far_43 (by decide) ?_
      exact q_iret hx hb hr hlk dX5_far_55 (by first | (simp only [farS, if_pos e6]; done) | (simp only [farS, if_neg e6, if_neg c_31]; done) | (simp only [farS, if_neg e6]; rw [if_pos (Int32.not_le.mp c_31)]) | (simp only [farS, if_neg e6]; rw [if_neg (Int32.not_lt.mpr c_31)]))
  · skip
    have e6 := jm_lt (ok_gue ho (t := t) (by omega)) c_15
    refine lv_ldc (v := 100000) hx hb hown (hts (.constant RX5 52 (100000)) (by decide +kernel)) dX5_far_18 ?_
    refine lv_goto (tgt := 55) hx hb dX5_far_20 (by decide) ?_
    exact q_iret hx hb hr hlk dX5_far_55 (by first | (simp only [farS, if_pos e6]; done) | (simp only [farS, if_neg e6, if_neg c_31]; done) | (simp only [farS, if_neg e6]; rw [if_pos (Int32.not_le.mp c_31)]) | (simp only [farS, if_neg e6]; rw [if_neg (Int32.not_lt.mpr c_31)]))

set_option maxHeartbeats 4000000 in
set_option maxRecDepth 100000 in
theorem c_X5_isAhead (l : Launch) (g : q_G) (d : Nat → Nat) (M : q_MV) (S : q_St) (K : Nat) (hc : q_cp S (m_s M)) (ho : q_ok K S) (hK5 : K ≤ 512) (t : Nat) (o : Nat) (h1_ : t < 10) (h2_ : o < 10) : q_PM l yX5_isAhead wsX5_isAhead { frames := 4, cells := 0, slots := 0, locals := 89 } [.ref (d 0), .int (nI t), .int (nI o)] (q_B g (q_mdW g d M)) (.int (bI (aheS S t o))) := by
  refine q_pm (cc := cX5_isAhead) (maxL := 5) (ret := (some .boolean)) (by decide) rfl (Nat.le_of_ble_eq_true rfl) ?_
  intro p e s m args below meth c ls hx hb hml hown hts hr hlk hB hl
  obtain ⟨hP, hK, hN⟩ := hB
  have hn10 := ok_n ho
  have fl_7 := hts (.fieldLink RX5 7 "PubQuizzesModel" "s" "[I") (by decide +kernel)
  have hi_X5 : ∀ w ∈ u_ws RX5 TX5 7, w ∈ wsX5_isAhead := by decide +kernel
  have hl : lv_has ls 5 [(0, .ref (d 0)), (1, .int (nI t)), (2, .int (nI o))] := hl
  refine lv_aload_n hx hb dX5_isAhead_0 rfl (lv_at hl 0 rfl) ?_
  refine lv_iload_n hx hb dX5_isAhead_1 rfl (lv_at hl 1 rfl) ?_
  refine q_V (As := [.int (nI t)]) (rest := []) ⟨hx, hb, hml, hown, hts⟩ (c_X5_score l g d M S K hc ho hK5 t (by omega)) (cwV 1 hts gX5_isAhead_X5_score rfl rfl rfl (by decide +kernel) ⟨Nat.le_of_ble_eq_true rfl, Nat.le_of_ble_eq_true rfl⟩) q_B_blind (va_recv hK hP (ci := 4) (q0 := 0) rfl rfl) (q_B_of hP hK hN) rfl hl.1 rfl (Nat.le_of_ble_eq_true rfl) dX5_isAhead_2 (Nat.zero_le _) (Nat.zero_le _) ?_
  refine lv_istore_n (lv' := [(3, .int (scoS S t)), (0, .ref (d 0)), (1, .int (nI t)), (2, .int (nI o))]) hx hb dX5_isAhead_5 rfl hl (by decide) rfl (fun ls hl => ?_)
  refine lv_aload_n hx hb dX5_isAhead_6 rfl (lv_at hl 1 rfl) ?_
  refine lv_iload_n hx hb dX5_isAhead_7 rfl (lv_at hl 3 rfl) ?_
  refine q_V (As := [.int (nI o)]) (rest := []) ⟨hx, hb, hml, hown, hts⟩ (c_X5_score l g d M S K hc ho hK5 o (by omega)) (cwV 1 hts gX5_isAhead_X5_score rfl rfl rfl (by decide +kernel) ⟨Nat.le_of_ble_eq_true rfl, Nat.le_of_ble_eq_true rfl⟩) q_B_blind (va_recv hK hP (ci := 4) (q0 := 0) rfl rfl) (q_B_of hP hK hN) rfl hl.1 rfl (Nat.le_of_ble_eq_true rfl) dX5_isAhead_8 (Nat.zero_le _) (Nat.zero_le _) ?_
  refine lv_istore (lv' := [(4, .int (scoS S o)), (3, .int (scoS S t)), (0, .ref (d 0)), (1, .int (nI t)), (2, .int (nI o))]) hx hb dX5_isAhead_11 hl (by decide) rfl (fun ls hl => ?_)
  refine lv_iload_n hx hb dX5_isAhead_13 rfl (lv_at hl 1 rfl) ?_
  refine lv_iload hx hb dX5_isAhead_14 (lv_at hl 0 rfl) ?_
  refine lv_icmp_gt (tgt := 48) hx hb dX5_isAhead_16 (by decide) (fun c_16 => ?_) (fun c_16 => ?_)
  · skip
    refine lv_iconst (v := 1) hx hb dX5_isAhead_48 (by decide) ?_
    refine lv_goto (tgt := 53) hx hb dX5_isAhead_49 (by decide) ?_
    exact q_zret hx hb hr hlk dX5_isAhead_53 (by first | rw [ahe_1 ho hK5 h1_ h2_ c_16]; rfl | rw [ahe_2 ho hK5 h1_ h2_ c_16 c_22]; rfl | (rw [ahe_3 ho hK5 h1_ h2_ c_16 c_22, dist_n e6, dist_n e6]; rfl) | (rw [ahe_3 ho hK5 h1_ h2_ c_16 c_22, decide_eq_true ((dist_lt ho e6 h1_ h2_).mp c_45)]; rfl) | (rw [ahe_3 ho hK5 h1_ h2_ c_16 c_22, decide_eq_false (fun q => c_45 ((dist_lt ho e6 h1_ h2_).mpr q))]; rfl))
  · skip
    refine lv_iload_n hx hb dX5_isAhead_19 rfl (lv_at hl 1 rfl) ?_
    refine lv_iload hx hb dX5_isAhead_20 (lv_at hl 0 rfl) ?_
    refine lv_icmp_ne (tgt := 52) hx hb dX5_isAhead_22 (by decide) (fun c_22 => ?_) (fun c_22 => ?_)
    · skip
      refine lv_iconst (v := 0) hx hb dX5_isAhead_52 (by decide) ?_
      exact q_zret hx hb hr hlk dX5_isAhead_53 (by first | rw [ahe_1 ho hK5 h1_ h2_ c_16]; rfl | rw [ahe_2 ho hK5 h1_ h2_ c_16 c_22]; rfl | (rw [ahe_3 ho hK5 h1_ h2_ c_16 c_22, dist_n e6, dist_n e6]; rfl) | (rw [ahe_3 ho hK5 h1_ h2_ c_16 c_22, decide_eq_true ((dist_lt ho e6 h1_ h2_).mp c_45)]; rfl) | (rw [ahe_3 ho hK5 h1_ h2_ c_16 c_22, decide_eq_false (fun q => c_45 ((dist_lt ho e6 h1_ h2_).mpr q))]; rfl))
    · skip
      refine lv_aload_n hx hb dX5_isAhead_25 rfl (lv_at hl 2 rfl) ?_
      refine va_get (D := g.1) (ci := 4) (v := .ref (d 1)) (C := RX5) (T := TX5) (N := 7) hx hb hts hi_X5 hown hK hP 0 rfl rfl 0 (by decide) fl_7 (fun _ h9 => h9) rfl dX5_isAhead_26 ?_
      refine lv_iconst (v := 5) hx hb dX5_isAhead_29 (by decide) ?_
      refine q_iald (j := 5) hx hb hK hP 1 0 rfl rfl (by omega) (by decide) dX5_isAhead_30 ?_
      refine q_reI (show (m_s M 5 : Int32) = bI (!decide (s_tru S = -6)) from cp_told hc) ?_
      refine lv_iconst (v := 1) hx hb dX5_isAhead_31 (by decide) ?_
      refine lv_icmp_ne (tgt := 52) hx hb dX5_isAhead_32 (by decide) (fun c_32 => ?_) (fun c_32 => ?_)
      · skip
        have c_32 : (!decide (s_tru S = -6)) = false := bI_n1 c_32
        have e6 : s_tru S = -6 := by simpa using c_32
        refine lv_iconst (v := 0) hx hb dX5_isAhead_52 (by decide) ?_
        exact q_zret hx hb hr hlk dX5_isAhead_53 (by first | rw [ahe_1 ho hK5 h1_ h2_ c_16]; rfl | rw [ahe_2 ho hK5 h1_ h2_ c_16 c_22]; rfl | (rw [ahe_3 ho hK5 h1_ h2_ c_16 c_22, dist_n e6, dist_n e6]; rfl) | (rw [ahe_3 ho hK5 h1_ h2_ c_16 c_22, decide_eq_true ((dist_lt ho e6 h1_ h2_).mp c_45)]; rfl) | (rw [ahe_3 ho hK5 h1_ h2_ c_16 c_22, decide_eq_false (fun q => c_45 ((dist_lt ho e6 h1_ h2_).mpr q))]; rfl))
      · skip
        have c_32 : (!decide (s_tru S = -6)) = true := bI_e1 c_32
        have e6 : ¬ s_tru S = -6 := by simpa using c_32
        refine lv_aload_n hx hb dX5_isAhead_35 rfl (lv_at hl 2 rfl) ?_
        refine lv_iload_n hx hb dX5_isAhead_36 rfl (lv_at hl 3 rfl) ?_
        refine q_V (As := [.int (nI t)]) (rest := []) ⟨hx, hb, hml, hown, hts⟩ (c_X5_far l g d M S K hc ho hK5 t (by omega) (by omega)) (cwV 1 hts gX5_isAhead_X5_far rfl rfl rfl (by decide +kernel) ⟨Nat.le_of_ble_eq_true rfl, Nat.le_of_ble_eq_true rfl⟩) q_B_blind (va_recv hK hP (ci := 4) (q0 := 0) rfl rfl) (q_B_of hP hK hN) rfl hl.1 rfl (Nat.le_of_ble_eq_true rfl) dX5_isAhead_37 (Nat.zero_le _) (Nat.zero_le _) ?_
        refine lv_aload_n hx hb dX5_isAhead_40 rfl (lv_at hl 2 rfl) ?_
        refine lv_iload_n hx hb dX5_isAhead_41 rfl (lv_at hl 4 rfl) ?_
        refine q_V (As := [.int (nI o)]) (rest := [.int (farS S t)]) ⟨hx, hb, hml, hown, hts⟩ (c_X5_far l g d M S K hc ho hK5 o (by omega) (by omega)) (cwV 1 hts gX5_isAhead_X5_far rfl rfl rfl (by decide +kernel) ⟨Nat.le_of_ble_eq_true rfl, Nat.le_of_ble_eq_true rfl⟩) q_B_blind (va_recv hK hP (ci := 4) (q0 := 0) rfl rfl) (q_B_of hP hK hN) rfl hl.1 rfl (Nat.le_of_ble_eq_true rfl) dX5_isAhead_42 (Nat.zero_le _) (Nat.zero_le _) ?_
        refine lv_icmp_ge (tgt := 52) hx hb dX5_isAhead_45 (by decide) (fun c_45 => ?_) (fun c_45 => ?_)
        · skip
          refine lv_iconst (v := 0) hx hb dX5_isAhead_52 (by decide) ?_
          exact q_zret hx hb hr hlk dX5_isAhead_53 (by first | rw [ahe_1 ho hK5 h1_ h2_ c_16]; rfl | rw [ahe_2 ho hK5 h1_ h2_ c_16 c_22]; rfl | (rw [ahe_3 ho hK5 h1_ h2_ c_16 c_22, dist_n e6, dist_n e6]; rfl) | (rw [ahe_3 ho hK5 h1_ h2_ c_16 c_22, decide_eq_true ((dist_lt ho e6 h1_ h2_).mp c_45)]; rfl) | (rw [ahe_3 ho hK5 h1_ h2_ c_16 c_22, decide_eq_false (fun q => c_45 ((dist_lt ho e6 h1_ h2_).mpr q))]; rfl))
        · skip
          refine lv_iconst (v := 1) hx hb dX5_isAhead_48 (by decide) ?_
          refine lv_goto (tgt := 53) hx hb dX5_isAhead_49 (by decide) ?_
          exact q_zret hx hb hr hlk dX5_isAhead_53 (by first | rw [ahe_1 ho hK5 h1_ h2_ c_16]; rfl | rw [ahe_2 ho hK5 h1_ h2_ c_16 c_22]; rfl | (rw [ahe_3 ho hK5 h1_ h2_ c_16 c_22, dist_n e6, dist_n e6]; rfl) | (rw [ahe_3 ho hK5 h1_ h2_ c_16 c_22, decide_eq_true ((dist_lt ho e6 h1_ h2_).mp c_45)]; rfl) | (rw [ahe_3 ho hK5 h1_ h2_ c_16 c_22, decide_eq_false (fun q => c_45 ((dist_lt ho e6 h1_ h2_).mpr q))]; rfl))

set_option maxHeartbeats 4000000 in
set_option maxRecDepth 100000 in
theorem c_X5_rank (l : Launch) (g : q_G) (d : Nat → Nat) (M : q_MV) (S : q_St) (K : Nat) (hc : q_cp S (m_s M)) (ho : q_ok K S) (hK5 : K ≤ 512) (t : Nat) (h1_ : t < 10) : q_PM l yX5_rank wsX5_rank { frames := 5, cells := 0, slots := 0, locals := 113 } [.ref (d 0), .int (nI t)] (q_B g (q_mdW g d M)) (.int (nI (rnkS S t))) := by
  refine q_pm (cc := cX5_rank) (maxL := 4) (ret := (some .int)) (by decide) rfl (Nat.le_of_ble_eq_true rfl) ?_
  intro p e s m args below meth c ls hx hb hml hown hts hr hlk hB hl
  obtain ⟨hP, hK, hN⟩ := hB
  have hn10 := ok_n ho
  have fl_7 := hts (.fieldLink RX5 7 "PubQuizzesModel" "s" "[I") (by decide +kernel)
  have hi_X5 : ∀ w ∈ u_ws RX5 TX5 7, w ∈ wsX5_rank := by decide +kernel
  have hl : lv_has ls 4 [(0, .ref (d 0)), (1, .int (nI t))] := hl
  refine lv_iconst (v := 1) hx hb dX5_rank_0 (by decide) ?_
  refine lv_istore_n (lv' := [(2, .int 1), (0, .ref (d 0)), (1, .int (nI t))]) hx hb dX5_rank_1 rfl hl (by decide) rfl (fun ls hl => ?_)
  refine lv_iconst (v := 0) hx hb dX5_rank_2 (by decide) ?_
  refine lv_istore_n (lv' := [(3, .int 0), (2, .int 1), (0, .ref (d 0)), (1, .int (nI t))]) hx hb dX5_rank_3 rfl hl (by decide) rfl (fun ls hl => ?_)
  have L_4 : ∀ (fu i4 : Nat) (y2_4 : Int32), y2_4 = nI (q_cnt (fun o => aheS S o t) i4 + 1) → i4 ≤ s_n S → s_n S < i4 + fu → ∀ ls : Array Slot, lv_has ls 4 [(3, .int (nI i4)), (2, .int y2_4), (0, .ref (d 0)), (1, .int (nI t))] → W p l e { frames := 5, cells := 0, slots := 0, locals := 113 } s m args below meth c s.heap [] 0 0 (MQ below (k2_QcV (.int (nI (rnkS S t)))) args s 0 0 (fun _ => False)) (F0 m 4 ls []) := by
    intro fu
    induction fu with
    | zero => intro i4 y2_4 ey2_4 hi_i4 hn_i4; exact absurd hn_i4 (by omega)
    | succ fu ih_i4 =>
      intro i4 y2_4 ey2_4 hi_i4 hn_i4 ls hl
      subst ey2_4
      refine lv_iload_n hx hb dX5_rank_4 rfl (lv_at hl 0 rfl) ?_
      refine lv_aload_n hx hb dX5_rank_5 rfl (lv_at hl 2 rfl) ?_
      refine va_get (D := g.1) (ci := 4) (v := .ref (d 1)) (C := RX5) (T := TX5) (N := 7) hx hb hts hi_X5 hown hK hP 0 rfl rfl 0 (by decide) fl_7 (fun _ h9 => h9) rfl dX5_rank_6 ?_
      refine lv_iconst (v := 4) hx hb dX5_rank_9 (by decide) ?_
      refine q_iald (j := 4) hx hb hK hP 1 0 rfl rfl (by omega) (by decide) dX5_rank_10 ?_
      refine q_reI (show (m_s M 4 : Int32) = nI (s_n S) from cp_n hc) ?_
      refine lv_icmp_ge (tgt := 37) hx hb dX5_rank_11 (by decide) (fun c_11 => ?_) (fun c_11 => ?_)
      · skip
        have e_11 : i4 = s_n S := q_ge_T (by omega) hi_i4 c_11
        subst e_11
        refine lv_iload_n hx hb dX5_rank_37 rfl (lv_at hl 1 rfl) ?_
        exact q_iret hx hb hr hlk dX5_rank_38 (rfl)
      · skip
        have lt_i4 : i4 < s_n S := q_ge_F (by omega) hi_i4 c_11
        refine lv_iload_n hx hb dX5_rank_14 rfl (lv_at hl 1 rfl) ?_
        refine lv_aload_n hx hb dX5_rank_15 rfl (lv_at hl 2 rfl) ?_
        refine lv_iload_n hx hb dX5_rank_16 rfl (lv_at hl 0 rfl) ?_
        refine lv_iload_n hx hb dX5_rank_17 rfl (lv_at hl 3 rfl) ?_
        refine q_V (As := [.int (nI i4), .int (nI t)]) (rest := [.int (nI (q_cnt (fun o => aheS S o t) i4 + 1))]) ⟨hx, hb, hml, hown, hts⟩ (c_X5_isAhead l g d M S K hc ho hK5 i4 t (by omega) (by omega)) (cwV 2 hts gX5_rank_X5_isAhead rfl rfl rfl (by decide +kernel) ⟨Nat.le_of_ble_eq_true rfl, Nat.le_of_ble_eq_true rfl⟩) q_B_blind (va_recv hK hP (ci := 4) (q0 := 0) rfl rfl) (q_B_of hP hK hN) rfl hl.1 rfl (Nat.le_of_ble_eq_true rfl) dX5_rank_18 (Nat.zero_le _) (Nat.zero_le _) ?_
        refine lv_if_eq (tgt := 28) hx hb dX5_rank_21 (by decide) (fun c_21 => ?_) (fun c_21 => ?_)
        · skip
          have c_21 : (aheS S i4 t) = false := bI_eq c_21
          refine lv_iconst (v := 0) hx hb dX5_rank_28 (by decide) ?_
          refine lv_iadd hx hb dX5_rank_29 ?_
          refine q_reI (show (((nI (q_cnt (fun o => aheS S o t) i4 + 1)) + 0) : Int32) = nI (q_cnt (fun o => aheS S o t) i4 + 1 + 0) from nI_add _ _) ?_
          refine lv_istore_n (lv' := [(2, .int (nI (q_cnt (fun o => aheS S o t) i4 + 1 + 0))), (3, .int (nI i4)), (0, .ref (d 0)), (1, .int (nI t))]) hx hb dX5_rank_30 rfl hl (by decide) rfl (fun ls hl => ?_)
          refine lv_iinc (v := nI (i4 + 1)) (lv' := [(3, .int (nI (i4 + 1))), (2, .int (nI (q_cnt (fun o => aheS S o t) i4 + 1 + 0))), (0, .ref (d 0)), (1, .int (nI t))]) hx hb dX5_rank_31 hl (k := 1) rfl (nI_1 _) (by decide) rfl (fun ls hl => ?_)
          refine lv_goto (tgt := 4) hx hb dX5_rank_34 (by decide) ?_
          exact ih_i4 (i4 + 1) (nI (q_cnt (fun o => aheS S o t) i4 + 1 + 0)) (by first | (simp [q_acc, q_or, q_cnt, q_any, nI_1, c_21]; done) | rfl) lt_i4 (by omega) ls (lv_sub hl [0, 1, 2, 3] rfl)
        · skip
          have c_21 : (aheS S i4 t) = true := bI_ne c_21
          refine lv_iconst (v := 1) hx hb dX5_rank_24 (by decide) ?_
          refine lv_goto (tgt := 29) hx hb dX5_rank_25 (by decide) ?_
          refine lv_iadd hx hb dX5_rank_29 ?_
          refine q_reI (show (((nI (q_cnt (fun o => aheS S o t) i4 + 1)) + 1) : Int32) = nI (q_cnt (fun o => aheS S o t) i4 + 1 + 1) from nI_add _ _) ?_
          refine lv_istore_n (lv' := [(2, .int (nI (q_cnt (fun o => aheS S o t) i4 + 1 + 1))), (3, .int (nI i4)), (0, .ref (d 0)), (1, .int (nI t))]) hx hb dX5_rank_30 rfl hl (by decide) rfl (fun ls hl => ?_)
          refine lv_iinc (v := nI (i4 + 1)) (lv' := [(3, .int (nI (i4 + 1))), (2, .int (nI (q_cnt (fun o => aheS S o t) i4 + 1 + 1))), (0, .ref (d 0)), (1, .int (nI t))]) hx hb dX5_rank_31 hl (k := 1) rfl (nI_1 _) (by decide) rfl (fun ls hl => ?_)
          refine lv_goto (tgt := 4) hx hb dX5_rank_34 (by decide) ?_
          exact ih_i4 (i4 + 1) (nI (q_cnt (fun o => aheS S o t) i4 + 1 + 1)) (by first | (simp [q_acc, q_or, q_cnt, q_any, nI_1, c_21]; done) | rfl) lt_i4 (by omega) ls (lv_sub hl [0, 1, 2, 3] rfl)
  exact L_4 (s_n S + 1) 0 1 (rfl) (Nat.zero_le _) (by omega) ls (lv_sub hl [0, 1, 2, 3] rfl)

set_option maxHeartbeats 4000000 in
set_option maxRecDepth 100000 in
theorem c_X5_tied (l : Launch) (g : q_G) (d : Nat → Nat) (M : q_MV) (S : q_St) (K : Nat) (hc : q_cp S (m_s M)) (ho : q_ok K S) (hK5 : K ≤ 512) (t : Nat) (h1_ : t < 10) : q_PM l yX5_tied wsX5_tied { frames := 5, cells := 0, slots := 0, locals := 113 } [.ref (d 0), .int (nI t)] (q_B g (q_mdW g d M)) (.int (tieS S t)) := by
  refine q_pm (cc := cX5_tied) (maxL := 5) (ret := (some .int)) (by decide) rfl (Nat.le_of_ble_eq_true rfl) ?_
  intro p e s m args below meth c ls hx hb hml hown hts hr hlk hB hl
  obtain ⟨hP, hK, hN⟩ := hB
  have hn10 := ok_n ho
  have fl_7 := hts (.fieldLink RX5 7 "PubQuizzesModel" "s" "[I") (by decide +kernel)
  have hi_X5 : ∀ w ∈ u_ws RX5 TX5 7, w ∈ wsX5_tied := by decide +kernel
  have hl : lv_has ls 5 [(0, .ref (d 0)), (1, .int (nI t))] := hl
  refine lv_iconst (v := 0) hx hb dX5_tied_0 (by decide) ?_
  refine lv_istore_n (lv' := [(2, .int 0), (0, .ref (d 0)), (1, .int (nI t))]) hx hb dX5_tied_1 rfl hl (by decide) rfl (fun ls hl => ?_)
  refine lv_iconst (v := 0) hx hb dX5_tied_2 (by decide) ?_
  refine lv_istore_n (lv' := [(3, .int 0), (2, .int 0), (0, .ref (d 0)), (1, .int (nI t))]) hx hb dX5_tied_3 rfl hl (by decide) rfl (fun ls hl => ?_)
  have L_4 : ∀ (fu i4 : Nat) (y2_4 : Int32), y2_4 = q_or (tie1 S t) i4 → i4 ≤ s_n S → s_n S < i4 + fu → ∀ ls : Array Slot, lv_has ls 5 [(3, .int (nI i4)), (2, .int y2_4), (0, .ref (d 0)), (1, .int (nI t))] → W p l e { frames := 5, cells := 0, slots := 0, locals := 113 } s m args below meth c s.heap [] 0 0 (MQ below (k2_QcV (.int (tieS S t))) args s 0 0 (fun _ => False)) (F0 m 4 ls []) := by
    intro fu
    induction fu with
    | zero => intro i4 y2_4 ey2_4 hi_i4 hn_i4; exact absurd hn_i4 (by omega)
    | succ fu ih_i4 =>
      intro i4 y2_4 ey2_4 hi_i4 hn_i4 ls hl
      subst ey2_4
      refine lv_iload_n hx hb dX5_tied_4 rfl (lv_at hl 0 rfl) ?_
      refine lv_aload_n hx hb dX5_tied_5 rfl (lv_at hl 2 rfl) ?_
      refine va_get (D := g.1) (ci := 4) (v := .ref (d 1)) (C := RX5) (T := TX5) (N := 7) hx hb hts hi_X5 hown hK hP 0 rfl rfl 0 (by decide) fl_7 (fun _ h9 => h9) rfl dX5_tied_6 ?_
      refine lv_iconst (v := 4) hx hb dX5_tied_9 (by decide) ?_
      refine q_iald (j := 4) hx hb hK hP 1 0 rfl rfl (by omega) (by decide) dX5_tied_10 ?_
      refine q_reI (show (m_s M 4 : Int32) = nI (s_n S) from cp_n hc) ?_
      refine lv_icmp_ge (tgt := 65) hx hb dX5_tied_11 (by decide) (fun c_11 => ?_) (fun c_11 => ?_)
      · skip
        have e_11 : i4 = s_n S := q_ge_T (by omega) hi_i4 c_11
        subst e_11
        refine lv_iload_n hx hb dX5_tied_65 rfl (lv_at hl 1 rfl) ?_
        exact q_iret hx hb hr hlk dX5_tied_66 (rfl)
      · skip
        have lt_i4 : i4 < s_n S := q_ge_F (by omega) hi_i4 c_11
        refine lv_iload_n hx hb dX5_tied_14 rfl (lv_at hl 0 rfl) ?_
        refine lv_iload_n hx hb dX5_tied_15 rfl (lv_at hl 3 rfl) ?_
        refine lv_icmp_eq (tgt := 41) hx hb dX5_tied_16 (by decide) (fun c_16 => ?_) (fun c_16 => ?_)
        · skip
          refine lv_iconst (v := 0) hx hb dX5_tied_41 (by decide) ?_
          refine lv_istore (lv' := [(4, .int 0), (3, .int (nI i4)), (2, .int (q_or (tie1 S t) i4)), (0, .ref (d 0)), (1, .int (nI t))]) hx hb dX5_tied_42 hl (by decide) rfl (fun ls hl => ?_)
          refine lv_iload_n hx hb dX5_tied_44 rfl (lv_at hl 2 rfl) ?_
          refine lv_iload hx hb dX5_tied_45 (lv_at hl 0 rfl) ?_
          refine lv_if_eq (tgt := 56) hx hb dX5_tied_47 (by decide) (fun c_47 => ?_) (fun c_47 => ?_)
          · skip
            refine lv_iconst (v := 0) hx hb dX5_tied_56 (by decide) ?_
            refine lv_ior hx hb dX5_tied_57 ?_
            refine lv_istore_n (lv' := [(2, .int ((q_or (tie1 S t) i4) ||| 0)), (4, .int 0), (3, .int (nI i4)), (0, .ref (d 0)), (1, .int (nI t))]) hx hb dX5_tied_58 rfl hl (by decide) rfl (fun ls hl => ?_)
            refine lv_iinc (v := nI (i4 + 1)) (lv' := [(3, .int (nI (i4 + 1))), (2, .int ((q_or (tie1 S t) i4) ||| 0)), (4, .int 0), (0, .ref (d 0)), (1, .int (nI t))]) hx hb dX5_tied_59 hl (k := 2) rfl (nI_1 _) (by decide) rfl (fun ls hl => ?_)
            refine lv_goto (tgt := 4) hx hb dX5_tied_62 (by decide) ?_
            exact ih_i4 (i4 + 1) ((q_or (tie1 S t) i4) ||| 0) (by first | (simp [q_acc, q_or, q_cnt, q_any, nI_1, tie1, c_16]; done) | rfl) lt_i4 (by omega) ls (lv_sub hl [0, 1, 3, 4] rfl)
          · skip
            exact absurd c_47 (by decide)
        · skip
          refine lv_aload_n hx hb dX5_tied_19 rfl (lv_at hl 2 rfl) ?_
          refine lv_iload_n hx hb dX5_tied_20 rfl (lv_at hl 0 rfl) ?_
          refine lv_iload_n hx hb dX5_tied_21 rfl (lv_at hl 3 rfl) ?_
          refine q_V (As := [.int (nI i4), .int (nI t)]) (rest := []) ⟨hx, hb, hml, hown, hts⟩ (c_X5_isAhead l g d M S K hc ho hK5 i4 t (by omega) (by omega)) (cwV 2 hts gX5_tied_X5_isAhead rfl rfl rfl (by decide +kernel) ⟨Nat.le_of_ble_eq_true rfl, Nat.le_of_ble_eq_true rfl⟩) q_B_blind (va_recv hK hP (ci := 4) (q0 := 0) rfl rfl) (q_B_of hP hK hN) rfl hl.1 rfl (Nat.le_of_ble_eq_true rfl) dX5_tied_22 (Nat.zero_le _) (Nat.zero_le _) ?_
          refine lv_if_ne (tgt := 41) hx hb dX5_tied_25 (by decide) (fun c_25 => ?_) (fun c_25 => ?_)
          · skip
            have c_25 : (aheS S i4 t) = true := bI_ne c_25
            refine lv_iconst (v := 0) hx hb dX5_tied_41 (by decide) ?_
            refine lv_istore (lv' := [(4, .int 0), (3, .int (nI i4)), (2, .int (q_or (tie1 S t) i4)), (0, .ref (d 0)), (1, .int (nI t))]) hx hb dX5_tied_42 hl (by decide) rfl (fun ls hl => ?_)
            refine lv_iload_n hx hb dX5_tied_44 rfl (lv_at hl 2 rfl) ?_
            refine lv_iload hx hb dX5_tied_45 (lv_at hl 0 rfl) ?_
            refine lv_if_eq (tgt := 56) hx hb dX5_tied_47 (by decide) (fun c_47 => ?_) (fun c_47 => ?_)
            · skip
              refine lv_iconst (v := 0) hx hb dX5_tied_56 (by decide) ?_
              refine lv_ior hx hb dX5_tied_57 ?_
              refine lv_istore_n (lv' := [(2, .int ((q_or (tie1 S t) i4) ||| 0)), (4, .int 0), (3, .int (nI i4)), (0, .ref (d 0)), (1, .int (nI t))]) hx hb dX5_tied_58 rfl hl (by decide) rfl (fun ls hl => ?_)
              refine lv_iinc (v := nI (i4 + 1)) (lv' := [(3, .int (nI (i4 + 1))), (2, .int ((q_or (tie1 S t) i4) ||| 0)), (4, .int 0), (0, .ref (d 0)), (1, .int (nI t))]) hx hb dX5_tied_59 hl (k := 2) rfl (nI_1 _) (by decide) rfl (fun ls hl => ?_)
              refine lv_goto (tgt := 4) hx hb dX5_tied_62 (by decide) ?_
              exact ih_i4 (i4 + 1) ((q_or (tie1 S t) i4) ||| 0) (by first | (simp [q_acc, q_or, q_cnt, q_any, nI_1, tie1, c_16, c_25]; done) | rfl) lt_i4 (by omega) ls (lv_sub hl [0, 1, 3, 4] rfl)
            · skip
              exact absurd c_47 (by decide)
          · skip
            have c_25 : (aheS S i4 t) = false := bI_eq c_25
            refine lv_aload_n hx hb dX5_tied_28 rfl (lv_at hl 2 rfl) ?_
            refine lv_iload_n hx hb dX5_tied_29 rfl (lv_at hl 3 rfl) ?_
            refine lv_iload_n hx hb dX5_tied_30 rfl (lv_at hl 0 rfl) ?_
            refine q_V (As := [.int (nI t), .int (nI i4)]) (rest := []) ⟨hx, hb, hml, hown, hts⟩ (c_X5_isAhead l g d M S K hc ho hK5 t i4 (by omega) (by omega)) (cwV 2 hts gX5_tied_X5_isAhead rfl rfl rfl (by decide +kernel) ⟨Nat.le_of_ble_eq_true rfl, Nat.le_of_ble_eq_true rfl⟩) q_B_blind (va_recv hK hP (ci := 4) (q0 := 0) rfl rfl) (q_B_of hP hK hN) rfl hl.1 rfl (Nat.le_of_ble_eq_true rfl) dX5_tied_31 (Nat.zero_le _) (Nat.zero_le _) ?_
            refine lv_if_ne (tgt := 41) hx hb dX5_tied_34 (by decide) (fun c_34 => ?_) (fun c_34 => ?_)
            · skip
              have c_34 : (aheS S t i4) = true := bI_ne c_34
              refine lv_iconst (v := 0) hx hb dX5_tied_41 (by decide) ?_
              refine lv_istore (lv' := [(4, .int 0), (3, .int (nI i4)), (2, .int (q_or (tie1 S t) i4)), (0, .ref (d 0)), (1, .int (nI t))]) hx hb dX5_tied_42 hl (by decide) rfl (fun ls hl => ?_)
              refine lv_iload_n hx hb dX5_tied_44 rfl (lv_at hl 2 rfl) ?_
              refine lv_iload hx hb dX5_tied_45 (lv_at hl 0 rfl) ?_
              refine lv_if_eq (tgt := 56) hx hb dX5_tied_47 (by decide) (fun c_47 => ?_) (fun c_47 => ?_)
              · skip
                refine lv_iconst (v := 0) hx hb dX5_tied_56 (by decide) ?_
                refine lv_ior hx hb dX5_tied_57 ?_
                refine lv_istore_n (lv' := [(2, .int ((q_or (tie1 S t) i4) ||| 0)), (4, .int 0), (3, .int (nI i4)), (0, .ref (d 0)), (1, .int (nI t))]) hx hb dX5_tied_58 rfl hl (by decide) rfl (fun ls hl => ?_)
                refine lv_iinc (v := nI (i4 + 1)) (lv' := [(3, .int (nI (i4 + 1))), (2, .int ((q_or (tie1 S t) i4) ||| 0)), (4, .int 0), (0, .ref (d 0)), (1, .int (nI t))]) hx hb dX5_tied_59 hl (k := 2) rfl (nI_1 _) (by decide) rfl (fun ls hl => ?_)
                refine lv_goto (tgt := 4) hx hb dX5_tied_62 (by decide) ?_
                exact ih_i4 (i4 + 1) ((q_or (tie1 S t) i4) ||| 0) (by first | (simp [q_acc, q_or, q_cnt, q_any, nI_1, tie1, c_16, c_25, c_34]; done) | rfl) lt_i4 (by omega) ls (lv_sub hl [0, 1, 3, 4] rfl)
              · skip
                exact absurd c_47 (by decide)
            · skip
              have c_34 : (aheS S t i4) = false := bI_eq c_34
              refine lv_iconst (v := 1) hx hb dX5_tied_37 (by decide) ?_
              refine lv_goto (tgt := 42) hx hb dX5_tied_38 (by decide) ?_
              refine lv_istore (lv' := [(4, .int 1), (3, .int (nI i4)), (2, .int (q_or (tie1 S t) i4)), (0, .ref (d 0)), (1, .int (nI t))]) hx hb dX5_tied_42 hl (by decide) rfl (fun ls hl => ?_)
              refine lv_iload_n hx hb dX5_tied_44 rfl (lv_at hl 2 rfl) ?_
              refine lv_iload hx hb dX5_tied_45 (lv_at hl 0 rfl) ?_
              refine lv_if_eq (tgt := 56) hx hb dX5_tied_47 (by decide) (fun c_47 => ?_) (fun c_47 => ?_)
              · skip
                exact absurd c_47 (by decide)
              · skip
                refine lv_iconst (v := 1) hx hb dX5_tied_50 (by decide) ?_
                refine lv_iload_n hx hb dX5_tied_51 rfl (lv_at hl 1 rfl) ?_
                refine lv_ishl hx hb dX5_tied_52 ?_
                refine lv_goto (tgt := 57) hx hb dX5_tied_53 (by decide) ?_
                refine lv_ior hx hb dX5_tied_57 ?_
                refine lv_istore_n (lv' := [(2, .int ((q_or (tie1 S t) i4) ||| (1 <<< ((nI i4) &&& 31)))), (4, .int 1), (3, .int (nI i4)), (0, .ref (d 0)), (1, .int (nI t))]) hx hb dX5_tied_58 rfl hl (by decide) rfl (fun ls hl => ?_)
                refine lv_iinc (v := nI (i4 + 1)) (lv' := [(3, .int (nI (i4 + 1))), (2, .int ((q_or (tie1 S t) i4) ||| (1 <<< ((nI i4) &&& 31)))), (4, .int 1), (0, .ref (d 0)), (1, .int (nI t))]) hx hb dX5_tied_59 hl (k := 2) rfl (nI_1 _) (by decide) rfl (fun ls hl => ?_)
                refine lv_goto (tgt := 4) hx hb dX5_tied_62 (by decide) ?_
                exact ih_i4 (i4 + 1) ((q_or (tie1 S t) i4) ||| (1 <<< ((nI i4) &&& 31))) (by first | (simp [q_acc, q_or, q_cnt, q_any, nI_1, tie1, c_16, c_25, c_34]; done) | rfl) lt_i4 (by omega) ls (lv_sub hl [0, 1, 3, 4] rfl)
  exact L_4 (s_n S + 1) 0 0 (rfl) (Nat.zero_le _) (by omega) ls (lv_sub hl [0, 1, 2, 3] rfl)

set_option maxHeartbeats 4000000 in
set_option maxRecDepth 100000 in
theorem c_X5_entries (l : Launch) (g : q_G) (d : Nat → Nat) (M : q_MV) (S : q_St) (K : Nat) (hc : q_cp S (m_s M)) (ho : q_ok K S) (hK5 : K ≤ 512) : q_PM l yX5_entries wsX5_entries { frames := 1, cells := 0, slots := 0, locals := 20 } [.ref (d 0)] (q_B g (q_mdW g d M)) (.int (entS S)) := by
  refine q_pm (cc := cX5_entries) (maxL := 3) (ret := (some .int)) (by decide) rfl (Nat.le_of_ble_eq_true rfl) ?_
  intro p e s m args below meth c ls hx hb hml hown hts hr hlk hB hl
  obtain ⟨hP, hK, hN⟩ := hB
  have hn10 := ok_n ho
  have fl_7 := hts (.fieldLink RX5 7 "PubQuizzesModel" "s" "[I") (by decide +kernel)
  have hi_X5 : ∀ w ∈ u_ws RX5 TX5 7, w ∈ wsX5_entries := by decide +kernel
  have hl : lv_has ls 3 [(0, .ref (d 0))] := hl
  refine lv_iconst (v := 0) hx hb dX5_entries_0 (by decide) ?_
  refine lv_istore_n (lv' := [(1, .int 0), (0, .ref (d 0))]) hx hb dX5_entries_1 rfl hl (by decide) rfl (fun ls hl => ?_)
  refine lv_iconst (v := 0) hx hb dX5_entries_2 (by decide) ?_
  refine lv_istore_n (lv' := [(2, .int 0), (1, .int 0), (0, .ref (d 0))]) hx hb dX5_entries_3 rfl hl (by decide) rfl (fun ls hl => ?_)
  have L_4 : ∀ (fu i4 : Nat) (y1_4 : Int32), y1_4 = q_acc 0 (s_paid S) i4 → i4 ≤ s_n S → s_n S < i4 + fu → ∀ ls : Array Slot, lv_has ls 3 [(2, .int (nI i4)), (1, .int y1_4), (0, .ref (d 0))] → W p l e { frames := 1, cells := 0, slots := 0, locals := 20 } s m args below meth c s.heap [] 0 0 (MQ below (k2_QcV (.int (entS S))) args s 0 0 (fun _ => False)) (F0 m 4 ls []) := by
    intro fu
    induction fu with
    | zero => intro i4 y1_4 ey1_4 hi_i4 hn_i4; exact absurd hn_i4 (by omega)
    | succ fu ih_i4 =>
      intro i4 y1_4 ey1_4 hi_i4 hn_i4 ls hl
      subst ey1_4
      refine lv_iload_n hx hb dX5_entries_4 rfl (lv_at hl 0 rfl) ?_
      refine lv_aload_n hx hb dX5_entries_5 rfl (lv_at hl 2 rfl) ?_
      refine va_get (D := g.1) (ci := 4) (v := .ref (d 1)) (C := RX5) (T := TX5) (N := 7) hx hb hts hi_X5 hown hK hP 0 rfl rfl 0 (by decide) fl_7 (fun _ h9 => h9) rfl dX5_entries_6 ?_
      refine lv_iconst (v := 4) hx hb dX5_entries_9 (by decide) ?_
      refine q_iald (j := 4) hx hb hK hP 1 0 rfl rfl (by omega) (by decide) dX5_entries_10 ?_
      refine q_reI (show (m_s M 4 : Int32) = nI (s_n S) from cp_n hc) ?_
      refine lv_icmp_ge (tgt := 34) hx hb dX5_entries_11 (by decide) (fun c_11 => ?_) (fun c_11 => ?_)
      · skip
        have e_11 : i4 = s_n S := q_ge_T (by omega) hi_i4 c_11
        subst e_11
        refine lv_iload_n hx hb dX5_entries_34 rfl (lv_at hl 1 rfl) ?_
        exact q_iret hx hb hr hlk dX5_entries_35 (rfl)
      · skip
        have lt_i4 : i4 < s_n S := q_ge_F (by omega) hi_i4 c_11
        refine lv_iload_n hx hb dX5_entries_14 rfl (lv_at hl 1 rfl) ?_
        refine lv_aload_n hx hb dX5_entries_15 rfl (lv_at hl 2 rfl) ?_
        refine va_get (D := g.1) (ci := 4) (v := .ref (d 1)) (C := RX5) (T := TX5) (N := 7) hx hb hts hi_X5 hown hK hP 0 rfl rfl 0 (by decide) fl_7 (fun _ h9 => h9) rfl dX5_entries_16 ?_
        refine lv_iload_n hx hb dX5_entries_19 rfl (lv_at hl 0 rfl) ?_
        refine q_S (As := [.int (nI i4)]) (rest := [.ref (d 1), .int (q_acc 0 (s_paid S) i4)]) ⟨hx, hb, hml, hown, hts⟩ (c_X5_t l i4 ) (va_cwS 1 hts gX5_entries_X5_t rfl rfl rfl (by decide +kernel) ⟨Nat.le_of_ble_eq_true rfl, Nat.le_of_ble_eq_true rfl⟩) q_Blind_t (fun _ _ _ => trivial) rfl hl.1 rfl (Nat.le_of_ble_eq_true rfl) dX5_entries_20 (Nat.zero_le _) (Nat.zero_le _) ?_
        refine lv_iconst (v := 0) hx hb dX5_entries_23 (by decide) ?_
        refine lv_iadd hx hb dX5_entries_24 ?_
        refine q_reI (show (((nI (96 + 4 * i4)) + 0) : Int32) = nI (96 + 4 * i4 + 0) from nI_add _ _) ?_
        refine q_iald (j := (96 + 4 * i4 + 0)) hx hb hK hP 1 0 rfl rfl (by omega) (by decide) dX5_entries_25 ?_
        refine q_reI (show (m_s M (96 + 4 * i4 + 0) : Int32) = s_paid S i4 from cp_paid hc (t := i4) (by omega)) ?_
        refine lv_iadd hx hb dX5_entries_26 ?_
        refine lv_istore_n (lv' := [(1, .int ((q_acc 0 (s_paid S) i4) + (s_paid S i4))), (2, .int (nI i4)), (0, .ref (d 0))]) hx hb dX5_entries_27 rfl hl (by decide) rfl (fun ls hl => ?_)
        refine lv_iinc (v := nI (i4 + 1)) (lv' := [(2, .int (nI (i4 + 1))), (1, .int ((q_acc 0 (s_paid S) i4) + (s_paid S i4))), (0, .ref (d 0))]) hx hb dX5_entries_28 hl (k := 1) rfl (nI_1 _) (by decide) rfl (fun ls hl => ?_)
        refine lv_goto (tgt := 4) hx hb dX5_entries_31 (by decide) ?_
        exact ih_i4 (i4 + 1) ((q_acc 0 (s_paid S) i4) + (s_paid S i4)) (by first | (simp [q_acc, q_or, q_cnt, q_any, nI_1, bI_t]; done) | rfl) lt_i4 (by omega) ls (lv_sub hl [0, 1, 2] rfl)
  exact L_4 (s_n S + 1) 0 0 (rfl) (Nat.zero_le _) (by omega) ls (lv_sub hl [0, 1, 2] rfl)

set_option maxHeartbeats 4000000 in
set_option maxRecDepth 100000 in
theorem c_X5_kept (l : Launch) (g : q_G) (d : Nat → Nat) (M : q_MV) (S : q_St) (K : Nat) (hc : q_cp S (m_s M)) (ho : q_ok K S) (hK5 : K ≤ 512) : q_PM l yX5_kept wsX5_kept { frames := 2, cells := 0, slots := 0, locals := 42 } [.ref (d 0)] (q_B g (q_mdW g d M)) (.int (houS S)) := by
  refine q_pm (cc := cX5_kept) (maxL := 1) (ret := (some .int)) (by decide) rfl (Nat.le_of_ble_eq_true rfl) ?_
  intro p e s m args below meth c ls hx hb hml hown hts hr hlk hB hl
  obtain ⟨hP, hK, hN⟩ := hB
  have hn10 := ok_n ho
  have fl_7 := hts (.fieldLink RX5 7 "PubQuizzesModel" "s" "[I") (by decide +kernel)
  have hi_X5 : ∀ w ∈ u_ws RX5 TX5 7, w ∈ wsX5_kept := by decide +kernel
  have hl : lv_has ls 1 [(0, .ref (d 0))] := hl
  refine lv_aload_n hx hb dX5_kept_0 rfl (lv_at hl 0 rfl) ?_
  refine q_V (As := []) (rest := []) ⟨hx, hb, hml, hown, hts⟩ (c_X5_entries l g d M S K hc ho hK5  ) (cwV 0 hts gX5_kept_X5_entries rfl rfl rfl (by decide +kernel) ⟨Nat.le_of_ble_eq_true rfl, Nat.le_of_ble_eq_true rfl⟩) q_B_blind (va_recv hK hP (ci := 4) (q0 := 0) rfl rfl) (q_B_of hP hK hN) rfl hl.1 rfl (Nat.le_of_ble_eq_true rfl) dX5_kept_1 (Nat.zero_le _) (Nat.zero_le _) ?_
  refine lv_aload_n hx hb dX5_kept_4 rfl (lv_at hl 0 rfl) ?_
  refine va_get (D := g.1) (ci := 4) (v := .ref (d 1)) (C := RX5) (T := TX5) (N := 7) hx hb hts hi_X5 hown hK hP 0 rfl rfl 0 (by decide) fl_7 (fun _ h9 => h9) rfl dX5_kept_5 ?_
  refine lv_iconst (v := 1) hx hb dX5_kept_8 (by decide) ?_
  refine q_iald (j := 1) hx hb hK hP 1 0 rfl rfl (by omega) (by decide) dX5_kept_9 ?_
  refine q_reI (show (m_s M 1 : Int32) = s_set S 1 from cp_set hc (k := 1) (by omega)) ?_
  refine lv_imul hx hb dX5_kept_10 ?_
  refine lv_bipush (v := 100) hx hb dX5_kept_11 (by decide) ?_
  refine lv_idiv hx hb dX5_kept_13 (by decide) ?_
  exact q_iret hx hb hr hlk dX5_kept_14 (rfl)

set_option maxHeartbeats 4000000 in
set_option maxRecDepth 100000 in
theorem c_X5_placeGets (l : Launch) (g : q_G) (d : Nat → Nat) (M : q_MV) (S : q_St) (K : Nat) (hc : q_cp S (m_s M)) (ho : q_ok K S) (hK5 : K ≤ 512) (x : Int32) : q_PM l yX5_placeGets wsX5_placeGets { frames := 3, cells := 0, slots := 0, locals := 62 } [.ref (d 0), .int x] (q_B g (q_mdW g d M)) (.int (prpS S x)) := by
  refine q_pm (cc := cX5_placeGets) (maxL := 5) (ret := (some .int)) (by decide) rfl (Nat.le_of_ble_eq_true rfl) ?_
  intro p e s m args below meth c ls hx hb hml hown hts hr hlk hB hl
  obtain ⟨hP, hK, hN⟩ := hB
  have hn10 := ok_n ho
  have fl_7 := hts (.fieldLink RX5 7 "PubQuizzesModel" "s" "[I") (by decide +kernel)
  have hi_X5 : ∀ w ∈ u_ws RX5 TX5 7, w ∈ wsX5_placeGets := by decide +kernel
  have hl : lv_has ls 5 [(0, .ref (d 0)), (1, .int x)] := hl
  refine lv_aload_n hx hb dX5_placeGets_0 rfl (lv_at hl 0 rfl) ?_
  refine q_V (As := []) (rest := []) ⟨hx, hb, hml, hown, hts⟩ (c_X5_entries l g d M S K hc ho hK5  ) (cwV 0 hts gX5_placeGets_X5_entries rfl rfl rfl (by decide +kernel) ⟨Nat.le_of_ble_eq_true rfl, Nat.le_of_ble_eq_true rfl⟩) q_B_blind (va_recv hK hP (ci := 4) (q0 := 0) rfl rfl) (q_B_of hP hK hN) rfl hl.1 rfl (Nat.le_of_ble_eq_true rfl) dX5_placeGets_1 (Nat.zero_le _) (Nat.zero_le _) ?_
  refine lv_aload_n hx hb dX5_placeGets_4 rfl (lv_at hl 0 rfl) ?_
  refine q_V (As := []) (rest := [.int (entS S)]) ⟨hx, hb, hml, hown, hts⟩ (c_X5_kept l g d M S K hc ho hK5  ) (cwV 0 hts gX5_placeGets_X5_kept rfl rfl rfl (by decide +kernel) ⟨Nat.le_of_ble_eq_true rfl, Nat.le_of_ble_eq_true rfl⟩) q_B_blind (va_recv hK hP (ci := 4) (q0 := 0) rfl rfl) (q_B_of hP hK hN) rfl hl.1 rfl (Nat.le_of_ble_eq_true rfl) dX5_placeGets_5 (Nat.zero_le _) (Nat.zero_le _) ?_
  refine lv_isub hx hb dX5_placeGets_8 ?_
  refine lv_istore_n (lv' := [(2, .int ((entS S) - (houS S))), (0, .ref (d 0)), (1, .int x)]) hx hb dX5_placeGets_9 rfl hl (by decide) rfl (fun ls hl => ?_)
  refine lv_aload_n hx hb dX5_placeGets_10 rfl (lv_at hl 1 rfl) ?_
  refine va_get (D := g.1) (ci := 4) (v := .ref (d 1)) (C := RX5) (T := TX5) (N := 7) hx hb hts hi_X5 hown hK hP 0 rfl rfl 0 (by decide) fl_7 (fun _ h9 => h9) rfl dX5_placeGets_11 ?_
  refine lv_iconst (v := 4) hx hb dX5_placeGets_14 (by decide) ?_
  refine q_iald (j := 4) hx hb hK hP 1 0 rfl rfl (by omega) (by decide) dX5_placeGets_15 ?_
  refine q_reI (show (m_s M 4 : Int32) = nI (s_n S) from cp_n hc) ?_
  refine lv_iconst (v := 2) hx hb dX5_placeGets_16 (by decide) ?_
  refine lv_icmp_lt (tgt := 30) hx hb dX5_placeGets_17 (by decide) (fun c_17 => ?_) (fun c_17 => ?_)
  · skip
    refine lv_iconst (v := 0) hx hb dX5_placeGets_30 (by decide) ?_
    refine lv_istore_n (lv' := [(3, .int 0), (2, .int ((entS S) - (houS S))), (0, .ref (d 0)), (1, .int x)]) hx hb dX5_placeGets_31 rfl hl (by decide) rfl (fun ls hl => ?_)
    refine lv_aload_n hx hb dX5_placeGets_32 rfl (lv_at hl 2 rfl) ?_
    refine va_get (D := g.1) (ci := 4) (v := .ref (d 1)) (C := RX5) (T := TX5) (N := 7) hx hb hts hi_X5 hown hK hP 0 rfl rfl 0 (by decide) fl_7 (fun _ h9 => h9) rfl dX5_placeGets_33 ?_
    refine lv_iconst (v := 4) hx hb dX5_placeGets_36 (by decide) ?_
    refine q_iald (j := 4) hx hb hK hP 1 0 rfl rfl (by omega) (by decide) dX5_placeGets_37 ?_
    refine q_reI (show (m_s M 4 : Int32) = nI (s_n S) from cp_n hc) ?_
    refine lv_iconst (v := 3) hx hb dX5_placeGets_38 (by decide) ?_
    refine lv_icmp_lt (tgt := 52) hx hb dX5_placeGets_39 (by decide) (fun c_39 => ?_) (fun c_39 => ?_)
    · skip
      refine lv_iconst (v := 0) hx hb dX5_placeGets_52 (by decide) ?_
      refine lv_istore (lv' := [(4, .int 0), (3, .int 0), (2, .int ((entS S) - (houS S))), (0, .ref (d 0)), (1, .int x)]) hx hb dX5_placeGets_53 hl (by decide) rfl (fun ls hl => ?_)
      refine lv_iload_n hx hb dX5_placeGets_55 rfl (lv_at hl 4 rfl) ?_
      refine lv_iconst (v := 1) hx hb dX5_placeGets_56 (by decide) ?_
      refine lv_icmp_ne (tgt := 69) hx hb dX5_placeGets_57 (by decide) (fun c_57 => ?_) (fun c_57 => ?_)
      · skip
        refine lv_iload_n hx hb dX5_placeGets_69 rfl (lv_at hl 4 rfl) ?_
        refine lv_iconst (v := 2) hx hb dX5_placeGets_70 (by decide) ?_
        refine lv_icmp_ne (tgt := 78) hx hb dX5_placeGets_71 (by decide) (fun c_71 => ?_) (fun c_71 => ?_)
        · skip
          refine lv_iload_n hx hb dX5_placeGets_78 rfl (lv_at hl 4 rfl) ?_
          refine lv_iconst (v := 3) hx hb dX5_placeGets_79 (by decide) ?_
          refine lv_icmp_ne (tgt := 88) hx hb dX5_placeGets_80 (by decide) (fun c_80 => ?_) (fun c_80 => ?_)
          · skip
            refine lv_iconst (v := 0) hx hb dX5_placeGets_88 (by decide) ?_
            exact q_iret hx hb hr hlk dX5_placeGets_89 (by simp only [prpS, secS, thiS, potS, if_pos c_17, if_pos c_39, if_neg c_57, if_neg c_71, if_neg c_80])
          · skip
            refine lv_iload hx hb dX5_placeGets_83 (lv_at hl 0 rfl) ?_
            refine lv_goto (tgt := 89) hx hb dX5_placeGets_85 (by decide) ?_
            exact q_iret hx hb hr hlk dX5_placeGets_89 (by simp only [prpS, secS, thiS, potS, if_pos c_17, if_pos c_39, if_neg c_57, if_neg c_71, if_pos c_80])
        · skip
          refine lv_iload_n hx hb dX5_placeGets_74 rfl (lv_at hl 1 rfl) ?_
          refine lv_goto (tgt := 89) hx hb dX5_placeGets_75 (by decide) ?_
          exact q_iret hx hb hr hlk dX5_placeGets_89 (by simp only [prpS, secS, thiS, potS, if_pos c_17, if_pos c_39, if_neg c_57, if_pos c_71])
      · skip
        refine lv_iload_n hx hb dX5_placeGets_60 rfl (lv_at hl 2 rfl) ?_
        refine lv_iload_n hx hb dX5_placeGets_61 rfl (lv_at hl 1 rfl) ?_
        refine lv_isub hx hb dX5_placeGets_62 ?_
        refine lv_iload hx hb dX5_placeGets_63 (lv_at hl 0 rfl) ?_
        refine lv_isub hx hb dX5_placeGets_65 ?_
        refine lv_goto (tgt := 89) hx hb dX5_placeGets_66 (by decide) ?_
        exact q_iret hx hb hr hlk dX5_placeGets_89 (by simp only [prpS, secS, thiS, potS, if_pos c_17, if_pos c_39, if_pos c_57])
    · skip
      refine lv_iload_n hx hb dX5_placeGets_42 rfl (lv_at hl 1 rfl) ?_
      refine lv_bipush (v := 10) hx hb dX5_placeGets_43 (by decide) ?_
      refine lv_imul hx hb dX5_placeGets_45 ?_
      refine lv_bipush (v := 100) hx hb dX5_placeGets_46 (by decide) ?_
      refine lv_idiv hx hb dX5_placeGets_48 (by decide) ?_
      refine lv_goto (tgt := 53) hx hb dX5_placeGets_49 (by decide) ?_
      refine lv_istore (lv' := [(4, .int ((((entS S) - (houS S)) * 10) / 100)), (3, .int 0), (2, .int ((entS S) - (houS S))), (0, .ref (d 0)), (1, .int x)]) hx hb dX5_placeGets_53 hl (by decide) rfl (fun ls hl => ?_)
      refine lv_iload_n hx hb dX5_placeGets_55 rfl (lv_at hl 4 rfl) ?_
      refine lv_iconst (v := 1) hx hb dX5_placeGets_56 (by decide) ?_
      refine lv_icmp_ne (tgt := 69) hx hb dX5_placeGets_57 (by decide) (fun c_57 => ?_) (fun c_57 => ?_)
      · skip
        refine lv_iload_n hx hb dX5_placeGets_69 rfl (lv_at hl 4 rfl) ?_
        refine lv_iconst (v := 2) hx hb dX5_placeGets_70 (by decide) ?_
        refine lv_icmp_ne (tgt := 78) hx hb dX5_placeGets_71 (by decide) (fun c_71 => ?_) (fun c_71 => ?_)
        · skip
          refine lv_iload_n hx hb dX5_placeGets_78 rfl (lv_at hl 4 rfl) ?_
          refine lv_iconst (v := 3) hx hb dX5_placeGets_79 (by decide) ?_
          refine lv_icmp_ne (tgt := 88) hx hb dX5_placeGets_80 (by decide) (fun c_80 => ?_) (fun c_80 => ?_)
          · skip
            refine lv_iconst (v := 0) hx hb dX5_placeGets_88 (by decide) ?_
            exact q_iret hx hb hr hlk dX5_placeGets_89 (by simp only [prpS, secS, thiS, potS, if_pos c_17, if_neg c_39, if_neg c_57, if_neg c_71, if_neg c_80])
          · skip
            refine lv_iload hx hb dX5_placeGets_83 (lv_at hl 0 rfl) ?_
            refine lv_goto (tgt := 89) hx hb dX5_placeGets_85 (by decide) ?_
            exact q_iret hx hb hr hlk dX5_placeGets_89 (by simp only [prpS, secS, thiS, potS, if_pos c_17, if_neg c_39, if_neg c_57, if_neg c_71, if_pos c_80])
        · skip
          refine lv_iload_n hx hb dX5_placeGets_74 rfl (lv_at hl 1 rfl) ?_
          refine lv_goto (tgt := 89) hx hb dX5_placeGets_75 (by decide) ?_
          exact q_iret hx hb hr hlk dX5_placeGets_89 (by simp only [prpS, secS, thiS, potS, if_pos c_17, if_neg c_39, if_neg c_57, if_pos c_71])
      · skip
        refine lv_iload_n hx hb dX5_placeGets_60 rfl (lv_at hl 2 rfl) ?_
        refine lv_iload_n hx hb dX5_placeGets_61 rfl (lv_at hl 1 rfl) ?_
        refine lv_isub hx hb dX5_placeGets_62 ?_
        refine lv_iload hx hb dX5_placeGets_63 (lv_at hl 0 rfl) ?_
        refine lv_isub hx hb dX5_placeGets_65 ?_
        refine lv_goto (tgt := 89) hx hb dX5_placeGets_66 (by decide) ?_
        exact q_iret hx hb hr hlk dX5_placeGets_89 (by simp only [prpS, secS, thiS, potS, if_pos c_17, if_neg c_39, if_pos c_57])
  · skip
    refine lv_iload_n hx hb dX5_placeGets_20 rfl (lv_at hl 0 rfl) ?_
    refine lv_bipush (v := 30) hx hb dX5_placeGets_21 (by decide) ?_
    refine lv_imul hx hb dX5_placeGets_23 ?_
    refine lv_bipush (v := 100) hx hb dX5_placeGets_24 (by decide) ?_
    refine lv_idiv hx hb dX5_placeGets_26 (by decide) ?_
    refine lv_goto (tgt := 31) hx hb dX5_placeGets_27 (by decide) ?_
    refine lv_istore_n (lv' := [(3, .int ((((entS S) - (houS S)) * 30) / 100)), (2, .int ((entS S) - (houS S))), (0, .ref (d 0)), (1, .int x)]) hx hb dX5_placeGets_31 rfl hl (by decide) rfl (fun ls hl => ?_)
    refine lv_aload_n hx hb dX5_placeGets_32 rfl (lv_at hl 2 rfl) ?_
    refine va_get (D := g.1) (ci := 4) (v := .ref (d 1)) (C := RX5) (T := TX5) (N := 7) hx hb hts hi_X5 hown hK hP 0 rfl rfl 0 (by decide) fl_7 (fun _ h9 => h9) rfl dX5_placeGets_33 ?_
    refine lv_iconst (v := 4) hx hb dX5_placeGets_36 (by decide) ?_
    refine q_iald (j := 4) hx hb hK hP 1 0 rfl rfl (by omega) (by decide) dX5_placeGets_37 ?_
    refine q_reI (show (m_s M 4 : Int32) = nI (s_n S) from cp_n hc) ?_
    refine lv_iconst (v := 3) hx hb dX5_placeGets_38 (by decide) ?_
    refine lv_icmp_lt (tgt := 52) hx hb dX5_placeGets_39 (by decide) (fun c_39 => ?_) (fun c_39 => ?_)
    · skip
      refine lv_iconst (v := 0) hx hb dX5_placeGets_52 (by decide) ?_
      refine lv_istore (lv' := [(4, .int 0), (3, .int ((((entS S) - (houS S)) * 30) / 100)), (2, .int ((entS S) - (houS S))), (0, .ref (d 0)), (1, .int x)]) hx hb dX5_placeGets_53 hl (by decide) rfl (fun ls hl => ?_)
      refine lv_iload_n hx hb dX5_placeGets_55 rfl (lv_at hl 4 rfl) ?_
      refine lv_iconst (v := 1) hx hb dX5_placeGets_56 (by decide) ?_
      refine lv_icmp_ne (tgt := 69) hx hb dX5_placeGets_57 (by decide) (fun c_57 => ?_) (fun c_57 => ?_)
      · skip
        refine lv_iload_n hx hb dX5_placeGets_69 rfl (lv_at hl 4 rfl) ?_
        refine lv_iconst (v := 2) hx hb dX5_placeGets_70 (by decide) ?_
        refine lv_icmp_ne (tgt := 78) hx hb dX5_placeGets_71 (by decide) (fun c_71 => ?_) (fun c_71 => ?_)
        · skip
          refine lv_iload_n hx hb dX5_placeGets_78 rfl (lv_at hl 4 rfl) ?_
          refine lv_iconst (v := 3) hx hb dX5_placeGets_79 (by decide) ?_
          refine lv_icmp_ne (tgt := 88) hx hb dX5_placeGets_80 (by decide) (fun c_80 => ?_) (fun c_80 => ?_)
          · skip
            refine lv_iconst (v := 0) hx hb dX5_placeGets_88 (by decide) ?_
            exact q_iret hx hb hr hlk dX5_placeGets_89 (by simp only [prpS, secS, thiS, potS, if_neg c_17, if_pos c_39, if_neg c_57, if_neg c_71, if_neg c_80])
          · skip
            refine lv_iload hx hb dX5_placeGets_83 (lv_at hl 0 rfl) ?_
            refine lv_goto (tgt := 89) hx hb dX5_placeGets_85 (by decide) ?_
            exact q_iret hx hb hr hlk dX5_placeGets_89 (by simp only [prpS, secS, thiS, potS, if_neg c_17, if_pos c_39, if_neg c_57, if_neg c_71, if_pos c_80])
        · skip
          refine lv_iload_n hx hb dX5_placeGets_74 rfl (lv_at hl 1 rfl) ?_
          refine lv_goto (tgt := 89) hx hb dX5_placeGets_75 (by decide) ?_
          exact q_iret hx hb hr hlk dX5_placeGets_89 (by simp only [prpS, secS, thiS, potS, if_neg c_17, if_pos c_39, if_neg c_57, if_pos c_71])
      · skip
        refine lv_iload_n hx hb dX5_placeGets_60 rfl (lv_at hl 2 rfl) ?_
        refine lv_iload_n hx hb dX5_placeGets_61 rfl (lv_at hl 1 rfl) ?_
        refine lv_isub hx hb dX5_placeGets_62 ?_
        refine lv_iload hx hb dX5_placeGets_63 (lv_at hl 0 rfl) ?_
        refine lv_isub hx hb dX5_placeGets_65 ?_
        refine lv_goto (tgt := 89) hx hb dX5_placeGets_66 (by decide) ?_
        exact q_iret hx hb hr hlk dX5_placeGets_89 (by simp only [prpS, secS, thiS, potS, if_neg c_17, if_pos c_39, if_pos c_57])
    · skip
      refine lv_iload_n hx hb dX5_placeGets_42 rfl (lv_at hl 1 rfl) ?_
      refine lv_bipush (v := 10) hx hb dX5_placeGets_43 (by decide) ?_
      refine lv_imul hx hb dX5_placeGets_45 ?_
      refine lv_bipush (v := 100) hx hb dX5_placeGets_46 (by decide) ?_
      refine lv_idiv hx hb dX5_placeGets_48 (by decide) ?_
      refine lv_goto (tgt := 53) hx hb dX5_placeGets_49 (by decide) ?_
      refine lv_istore (lv' := [(4, .int ((((entS S) - (houS S)) * 10) / 100)), (3, .int ((((entS S) - (houS S)) * 30) / 100)), (2, .int ((entS S) - (houS S))), (0, .ref (d 0)), (1, .int x)]) hx hb dX5_placeGets_53 hl (by decide) rfl (fun ls hl => ?_)
      refine lv_iload_n hx hb dX5_placeGets_55 rfl (lv_at hl 4 rfl) ?_
      refine lv_iconst (v := 1) hx hb dX5_placeGets_56 (by decide) ?_
      refine lv_icmp_ne (tgt := 69) hx hb dX5_placeGets_57 (by decide) (fun c_57 => ?_) (fun c_57 => ?_)
      · skip
        refine lv_iload_n hx hb dX5_placeGets_69 rfl (lv_at hl 4 rfl) ?_
        refine lv_iconst (v := 2) hx hb dX5_placeGets_70 (by decide) ?_
        refine lv_icmp_ne (tgt := 78) hx hb dX5_placeGets_71 (by decide) (fun c_71 => ?_) (fun c_71 => ?_)
        · skip
          refine lv_iload_n hx hb dX5_placeGets_78 rfl (lv_at hl 4 rfl) ?_
          refine lv_iconst (v := 3) hx hb dX5_placeGets_79 (by decide) ?_
          refine lv_icmp_ne (tgt := 88) hx hb dX5_placeGets_80 (by decide) (fun c_80 => ?_) (fun c_80 => ?_)
          · skip
            refine lv_iconst (v := 0) hx hb dX5_placeGets_88 (by decide) ?_
            exact q_iret hx hb hr hlk dX5_placeGets_89 (by simp only [prpS, secS, thiS, potS, if_neg c_17, if_neg c_39, if_neg c_57, if_neg c_71, if_neg c_80])
          · skip
            refine lv_iload hx hb dX5_placeGets_83 (lv_at hl 0 rfl) ?_
            refine lv_goto (tgt := 89) hx hb dX5_placeGets_85 (by decide) ?_
            exact q_iret hx hb hr hlk dX5_placeGets_89 (by simp only [prpS, secS, thiS, potS, if_neg c_17, if_neg c_39, if_neg c_57, if_neg c_71, if_pos c_80])
        · skip
          refine lv_iload_n hx hb dX5_placeGets_74 rfl (lv_at hl 1 rfl) ?_
          refine lv_goto (tgt := 89) hx hb dX5_placeGets_75 (by decide) ?_
          exact q_iret hx hb hr hlk dX5_placeGets_89 (by simp only [prpS, secS, thiS, potS, if_neg c_17, if_neg c_39, if_neg c_57, if_pos c_71])
      · skip
        refine lv_iload_n hx hb dX5_placeGets_60 rfl (lv_at hl 2 rfl) ?_
        refine lv_iload_n hx hb dX5_placeGets_61 rfl (lv_at hl 1 rfl) ?_
        refine lv_isub hx hb dX5_placeGets_62 ?_
        refine lv_iload hx hb dX5_placeGets_63 (lv_at hl 0 rfl) ?_
        refine lv_isub hx hb dX5_placeGets_65 ?_
        refine lv_goto (tgt := 89) hx hb dX5_placeGets_66 (by decide) ?_
        exact q_iret hx hb hr hlk dX5_placeGets_89 (by simp only [prpS, secS, thiS, potS, if_neg c_17, if_neg c_39, if_pos c_57])
