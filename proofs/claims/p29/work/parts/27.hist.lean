/-! the history and the pad, as they change -/
def v_rec (V : q_CV) : q_CV := w_hl (w_nxt (w_sx V (va_up (v_sx V) (v_nxt V + 1) (v_now V))) (if v_nxt V = 5 then 0 else v_nxt V + 1)) (if v_hl V < 6 then v_hl V + 1 else 6)
def v_prv (V : q_CV) : Nat := if v_nxt V = 0 then 5 else v_nxt V - 1
def v_und (V : q_CV) : q_CV := w_hl (w_nxt (w_now V (v_sx V (v_prv V + 1))) (v_prv V)) (v_hl V - 1)
def v_app (V : q_CV) (x : Int64) (k : Nat) : q_CV := if v_pl V + k ≤ 80 then w_pl (w_pc V (fun i => if v_pl V ≤ i ∧ i < v_pl V + k then (sh8 x (v_pl V + k - 1 - i) &&& 255).toInt32 else v_pc V i)) (v_pl V + k) else V
def v_fin (V : q_CV) (t : Nat) : q_CV := w_now V (u_fin (v_now V) (upd (s_fin (v_now V)) t (s_fin (v_now V) t + 1)))
theorem v_recM {n : Nat} (h : n ≤ 6) : (if (6 : Int32) < nI (n + 1) then (6 : Int32) else nI (n + 1)) = nI (if n < 6 then n + 1 else 6) := by
  by_cases c : n < 6
  · rw [if_pos c, if_neg]
    exact nI_nlt (a := 6) (b := n + 1) (by omega) (by omega)
  · have e : n = 6 := by omega
    subst e; decide

set_option maxHeartbeats 2000000 in
set_option maxRecDepth 100000 in
theorem c_X1_clear (l : Launch) (g : q_G) (a : Nat → Nat → Nat) (b : Nat → Nat) (V : q_CV) (hI : q_inj a b) : Met l yX1_clear wsX1_clear { frames := 0, cells := 0, slots := 0, locals := 0 } (va_Pc [.ref (b 1)] (q_B g (q_pqW g a b V))) (q_QM g (q_adr a b) (q_pqW g a b (w_pl V 0)) (none)) 0 0 (q_adr a b) := by
  refine q_mm (cc := cX1_clear) (maxL := 1) (ret := none) (by decide) rfl (Nat.le_of_ble_eq_true rfl) ?_
  intro p e s m args below meth c ls hx hb hml hown hts hr hlk hnm hB hag hl
  obtain ⟨hP, hK, hN⟩ := hB
  have hS : va_S (q_adr a b) s.heap s.heap [] := va_S.rf
  have hP : va_P g.1 vwCl (q_pqW g a b V) s.heap := hP
  have hD : va_D (q_adr a b) (q_pqW g a b V) := q_D hI (fun _ h => h)
  have fl_17 := hts (.fieldLink RX1 17 "PubQuizzes$Pad" "length" "I") (by decide +kernel)
  have hi_X1 : ∀ w ∈ u_ws RX1 TX1 2, w ∈ wsX1_clear := by decide +kernel
  have hl : lv_has ls 1 [(0, .ref (b 1))] := hl
  refine lv_aload_n hx hb dX1_clear_0 rfl (lv_at hl 0 rfl) ?_
  refine lv_iconst (v := 0) hx hb dX1_clear_1 (by decide) ?_
  refine va_put (D := g.1) (ci := 1) (v := .int 0) (ty := .int) (C := RX1) (T := TX1) (N := 2) hx hb hts hi_X1 tyX1 tyX1_ok nmX1 hown hK hP hD hS 1 rfl rfl 1 (by decide) fl_17 (fun _ h9 => h9) rfl (by decide +kernel) rfl rfl (Nat.le_of_ble_eq_true rfl) dX1_clear_2 (fun H locs hP _ hS => ?_)
  have hP : va_P g.1 vwCl (q_pqW g a b (w_pl V 0)) H := hP
  have hD : va_D (q_adr a b) (q_pqW g a b (w_pl V 0)) := q_D hI (fun _ h => h)
  exact q_mvret hx hb hr hlk dX1_clear_5 hP hS (rfl)

set_option maxHeartbeats 2000000 in
set_option maxRecDepth 100000 in
theorem c_X3_addFine (l : Launch) (g : q_G) (a : Nat → Nat → Nat) (b : Nat → Nat) (V : q_CV) (hI : q_inj a b) (t : Nat) (h1_ : t < s_n (v_now V)) (h2_ : s_n (v_now V) ≤ 10) : Met l yX3_addFine wsX3_addFine { frames := 1, cells := 0, slots := 0, locals := 21 } (va_Pc [.ref (a 0 0), .int (nI t)] (q_B g (q_pqW g a b V))) (q_QM g (q_adr a b) (q_pqW g a b (v_fin V t)) (none)) 0 0 (q_adr a b) := by
  refine q_mm (cc := cX3_addFine) (maxL := 2) (ret := none) (by decide) rfl (Nat.le_of_ble_eq_true rfl) ?_
  intro p e s m args below meth c ls hx hb hml hown hts hr hlk hnm hB hag hl
  obtain ⟨hP, hK, hN⟩ := hB
  have hS : va_S (q_adr a b) s.heap s.heap [] := va_S.rf
  have hP : va_P g.1 vwCl (q_pqW g a b V) s.heap := hP
  have hD : va_D (q_adr a b) (q_pqW g a b V) := q_D hI (fun _ h => h)
  have fl_21 := hts (.fieldLink RX3 21 "PubQuizzes$State" "fines" "[I") (by decide +kernel)
  have hi_X3 : ∀ w ∈ u_ws RX3 TX3 12, w ∈ wsX3_addFine := by decide +kernel
  have hl : lv_has ls 2 [(0, .ref (a 0 0)), (1, .int (nI t))] := hl
  refine lv_aload_n hx hb dX3_addFine_0 rfl (lv_at hl 0 rfl) ?_
  refine lv_iload_n hx hb dX3_addFine_1 rfl (lv_at hl 1 rfl) ?_
  refine q_V (As := [.int (nI t)]) (rest := []) ⟨hx, hb, hml, hown, hts⟩ (c_X3_isTeam l g (a 0) (v_now V) (nI t) ) (cwV 1 hts gX3_addFine_X3_isTeam rfl rfl rfl (by decide +kernel) ⟨Nat.le_of_ble_eq_true rfl, Nat.le_of_ble_eq_true rfl⟩) q_B_blind (va_recv hK (q_nowP (V := V) hP) (ci := 2) (q0 := 0) rfl rfl) (q_B_of (q_nowP (V := V) hP) hK hN) rfl hl.1 rfl (Nat.le_of_ble_eq_true rfl) dX3_addFine_2 (Nat.zero_le _) (Nat.zero_le _) ?_
  refine lv_if_eq (tgt := 18) hx hb dX3_addFine_5 (by decide) (fun c_5 => ?_) (fun c_5 => ?_)
  · skip
    have c_5 : (isTm (v_now V) (nI t)) = false := bI_eq c_5
    exact absurd c_5 (by rw [isTm_t h1_ h2_]; decide)
  · skip
    have c_5 : (isTm (v_now V) (nI t)) = true := bI_ne c_5
    refine lv_aload_n hx hb dX3_addFine_8 rfl (lv_at hl 0 rfl) ?_
    refine va_get (D := g.1) (ci := 2) (v := .ref (a 0 4)) (C := RX3) (T := TX3) (N := 12) hx hb hts hi_X3 hown hK hP 7 rfl rfl 3 (by decide) fl_21 (fun _ h9 => h9) rfl dX3_addFine_9 ?_
    refine lv_iload_n hx hb dX3_addFine_12 rfl (lv_at hl 1 rfl) ?_
    refine lv_dup2_11 hx hb dX3_addFine_13 rfl rfl ?_
    refine q_iald (j := t) hx hb hK hP 11 0 rfl rfl (by omega) (by decide) dX3_addFine_14 ?_
    refine lv_iconst (v := 1) hx hb dX3_addFine_15 (by decide) ?_
    refine lv_iadd hx hb dX3_addFine_16 ?_
    refine q_iast (j := t) hx hb hK hP hD hS 11 0 rfl rfl (by omega) (by decide) dX3_addFine_17 (fun H locs hP hS => ?_)
    have hP : va_P g.1 vwCl (q_pqW g a b (w_now V (u_fin (v_now V) (upd (s_fin (v_now V)) t ((s_fin (v_now V) t) + 1))))) H := hP
    have hD : va_D (q_adr a b) (q_pqW g a b (w_now V (u_fin (v_now V) (upd (s_fin (v_now V)) t ((s_fin (v_now V) t) + 1))))) := q_D hI (fun _ h => h)
    exact q_mvret hx hb hr hlk dX3_addFine_18 hP hS (rfl)

set_option maxHeartbeats 2000000 in
set_option maxRecDepth 100000 in
theorem c_X0_record (l : Launch) (g : q_G) (a : Nat → Nat → Nat) (b : Nat → Nat) (V : q_CV) (hI : q_inj a b) (h1_ : v_nxt V < 6) (h2_ : v_hl V ≤ 6) : Met l yX0_record wsX0_record { frames := 2, cells := 0, slots := 0, locals := 61 } (va_Pc [.ref (b 3), .ref (a 0 0)] (q_B g (q_pqW g a b V))) (q_QM g (q_adr a b) (q_pqW g a b (v_rec V)) (none)) 0 0 (q_adr a b) := by
  refine q_mm (cc := cX0_record) (maxL := 2) (ret := none) (by decide) rfl (Nat.le_of_ble_eq_true rfl) ?_
  intro p e s m args below meth c ls hx hb hml hown hts hr hlk hnm hB hag hl
  obtain ⟨hP, hK, hN⟩ := hB
  have hS : va_S (q_adr a b) s.heap s.heap [] := va_S.rf
  have hP : va_P g.1 vwCl (q_pqW g a b V) s.heap := hP
  have hD : va_D (q_adr a b) (q_pqW g a b V) := q_D hI (fun _ h => h)
  have fl_11 := hts (.fieldLink RX0 11 "PubQuizzes$History" "states" "[LPubQuizzes$State;") (by decide +kernel)
  have fl_16 := hts (.fieldLink RX0 16 "PubQuizzes$History" "length" "I") (by decide +kernel)
  have fl_20 := hts (.fieldLink RX0 20 "PubQuizzes$History" "next" "I") (by decide +kernel)
  have hi_X0 : ∀ w ∈ u_ws RX0 TX0 3, w ∈ wsX0_record := by decide +kernel
  have hl : lv_has ls 2 [(0, .ref (b 3)), (1, .ref (a 0 0))] := hl
  refine lv_aload_n hx hb dX0_record_0 rfl (lv_at hl 0 rfl) ?_
  refine va_get (D := g.1) (ci := 0) (v := .int (nI (v_nxt V))) (C := RX0) (T := TX0) (N := 3) hx hb hts hi_X0 hown hK hP 3 rfl rfl 1 (by decide) fl_20 (fun _ h9 => h9) rfl dX0_record_1 ?_
  refine lv_if_lt (tgt := 16) hx hb dX0_record_4 (by decide) (fun c_4 => ?_) (fun c_4 => ?_)
  · skip
    exact absurd c_4 (nI_pos (by omega))
  · skip
    refine lv_aload_n hx hb dX0_record_7 rfl (lv_at hl 0 rfl) ?_
    refine va_get (D := g.1) (ci := 0) (v := .int (nI (v_nxt V))) (C := RX0) (T := TX0) (N := 3) hx hb hts hi_X0 hown hK hP 3 rfl rfl 1 (by decide) fl_20 (fun _ h9 => h9) rfl dX0_record_8 ?_
    refine lv_bipush (v := 6) hx hb dX0_record_11 (by decide) ?_
    refine lv_icmp_lt (tgt := 17) hx hb dX0_record_13 (by decide) (fun c_13 => ?_) (fun c_13 => ?_)
    · skip
      refine lv_aload_n hx hb dX0_record_17 rfl (lv_at hl 1 rfl) ?_
      refine lv_aload_n hx hb dX0_record_18 rfl (lv_at hl 0 rfl) ?_
      refine va_get (D := g.1) (ci := 0) (v := .ref (b 4)) (C := RX0) (T := TX0) (N := 3) hx hb hts hi_X0 hown hK hP 3 rfl rfl 0 (by decide) fl_11 (fun _ h9 => h9) rfl dX0_record_19 ?_
      refine lv_aload_n hx hb dX0_record_22 rfl (lv_at hl 0 rfl) ?_
      refine va_get (D := g.1) (ci := 0) (v := .int (nI (v_nxt V))) (C := RX0) (T := TX0) (N := 3) hx hb hts hi_X0 hown hK hP 3 rfl rfl 1 (by decide) fl_20 (fun _ h9 => h9) rfl dX0_record_23 ?_
      refine q_aald (j := (v_nxt V)) (z := a ((v_nxt V) + 1) 0) hx hb hK hP 4 4 rfl rfl rfl (by omega) (by decide) dX0_record_26 ?_
      have hBk := (q_pqP.mp hP).2
      have hP2 : va_P g.1 vwCl (q_stW g (a 0) (q_blk V 0) ++ q_stW g (a ((v_nxt V) + 1)) (q_blk V ((v_nxt V) + 1))) s.heap := q_P_app.mpr ⟨hBk 0 (by omega), hBk ((v_nxt V) + 1) (by omega)⟩
      refine q_SM (As := [.ref (a 0 0), .ref (a ((v_nxt V) + 1) 0)]) (rest := []) (st2 := []) ⟨hx, hb, hml, hown, hts⟩ (c_X3_copy l g a b 0 ((v_nxt V) + 1) _ _ hI (by omega) (by omega) (by omega)) (va_cwS 2 hts gX0_record_X3_copy rfl rfl rfl (by decide +kernel) ⟨Nat.le_of_ble_eq_true rfl, Nat.le_of_ble_eq_true rfl⟩) q_B_blind (q_B_of hP2 hK hN) rfl hl.1 rfl (Nat.le_of_ble_eq_true rfl) dX0_record_27 (Nat.zero_le _) (Nat.zero_le _) hS (fun _ h => q_two_adr (by omega) (by omega) h) rfl rfl rfl (fun H locs hP3 hF3 hS _ => ?_)
      have hP := q_copyJ hI hP (by omega) (by omega) hP3 hF3
      rw [show v_copy V 0 ((v_nxt V) + 1) = w_sx V (va_up (v_sx V) (v_nxt V + 1) (v_now V)) from if_neg (Nat.succ_ne_zero _)] at hP
      have hP : va_P g.1 vwCl (q_pqW g a b (w_sx V (va_up (v_sx V) (v_nxt V + 1) (v_now V)))) H := hP
      have hD : va_D (q_adr a b) (q_pqW g a b (w_sx V (va_up (v_sx V) (v_nxt V + 1) (v_now V)))) := q_D hI (fun _ h => h)
      refine lv_aload_n hx hb dX0_record_30 rfl (lv_at hl 0 rfl) ?_
      refine lv_aload_n hx hb dX0_record_31 rfl (lv_at hl 0 rfl) ?_
      refine va_get (D := g.1) (ci := 0) (v := .int (nI (v_nxt V))) (C := RX0) (T := TX0) (N := 3) hx hb hts hi_X0 hown hK hP 3 rfl rfl 1 (by decide) fl_20 (fun _ h9 => h9) rfl dX0_record_32 ?_
      refine lv_iconst (v := 5) hx hb dX0_record_35 (by decide) ?_
      refine lv_icmp_ne (tgt := 43) hx hb dX0_record_36 (by decide) (fun c_36 => ?_) (fun c_36 => ?_)
      · skip
        have c_36 : ¬ v_nxt V = 5 := fun q => c_36 (by rw [q]; rfl)
        refine lv_aload_n hx hb dX0_record_43 rfl (lv_at hl 0 rfl) ?_
        refine va_get (D := g.1) (ci := 0) (v := .int (nI (v_nxt V))) (C := RX0) (T := TX0) (N := 3) hx hb hts hi_X0 hown hK hP 3 rfl rfl 1 (by decide) fl_20 (fun _ h9 => h9) rfl dX0_record_44 ?_
        refine lv_iconst (v := 1) hx hb dX0_record_47 (by decide) ?_
        refine lv_iadd hx hb dX0_record_48 ?_
        refine q_reI (show (((nI (v_nxt V)) + 1) : Int32) = nI (if v_nxt V = 5 then 0 else v_nxt V + 1) from by first | (rw [if_neg c_36, nI_1]) | (rw [if_pos c_36]; rfl)) ?_
        refine va_put (D := g.1) (ci := 0) (v := .int (nI (if v_nxt V = 5 then 0 else v_nxt V + 1))) (ty := .int) (C := RX0) (T := TX0) (N := 3) hx hb hts hi_X0 tyX0 tyX0_ok nmX0 hown hK hP hD hS 3 rfl rfl 1 (by decide) fl_20 (fun _ h9 => h9) rfl (by decide +kernel) rfl rfl (Nat.le_of_ble_eq_true rfl) dX0_record_49 (fun H locs hP _ hS => ?_)
        have hP : va_P g.1 vwCl (q_pqW g a b (w_nxt (w_sx V (va_up (v_sx V) (v_nxt V + 1) (v_now V))) (if v_nxt V = 5 then 0 else v_nxt V + 1))) H := hP
        have hD : va_D (q_adr a b) (q_pqW g a b (w_nxt (w_sx V (va_up (v_sx V) (v_nxt V + 1) (v_now V))) (if v_nxt V = 5 then 0 else v_nxt V + 1))) := q_D hI (fun _ h => h)
        refine lv_aload_n hx hb dX0_record_52 rfl (lv_at hl 0 rfl) ?_
        refine lv_aload_n hx hb dX0_record_53 rfl (lv_at hl 0 rfl) ?_
        refine va_get (D := g.1) (ci := 0) (v := .int (nI (v_hl V))) (C := RX0) (T := TX0) (N := 3) hx hb hts hi_X0 hown hK hP 3 rfl rfl 2 (by decide) fl_16 (fun _ h9 => h9) rfl dX0_record_54 ?_
        refine lv_iconst (v := 1) hx hb dX0_record_57 (by decide) ?_
        refine lv_iadd hx hb dX0_record_58 ?_
        refine lv_bipush (v := 6) hx hb dX0_record_59 (by decide) ?_
        refine q_reI (show (6 : Int32) = 6 from rfl) ?_
        refine va_mmin hx hb (hml.trans hl.1.symm) hown (hts (.methodLink RX0 27 Lib.Math.min.name) (by decide +kernel)) (hts (.static Lib.Math.min.name) (by decide +kernel)) (hts (.initialized "java/lang/Math") (by decide +kernel)) (hts (.code Lib.Math.min.name Lib.Math.min.code 2 (some .int)) (by decide +kernel)) (Nat.le_of_ble_eq_true rfl) (Nat.le_of_ble_eq_true rfl) (Nat.zero_le _) (Nat.zero_le _) dX0_record_61 ?_
        refine q_reI (show ((if 6 < ((nI (v_hl V)) + 1) then 6 else ((nI (v_hl V)) + 1)) : Int32) = nI (if v_hl V < 6 then v_hl V + 1 else 6) from by rw [nI_1]; exact v_recM h2_) ?_
        refine va_put (D := g.1) (ci := 0) (v := .int (nI (if v_hl V < 6 then v_hl V + 1 else 6))) (ty := .int) (C := RX0) (T := TX0) (N := 3) hx hb hts hi_X0 tyX0 tyX0_ok nmX0 hown hK hP hD hS 3 rfl rfl 2 (by decide) fl_16 (fun _ h9 => h9) rfl (by decide +kernel) rfl rfl (Nat.le_of_ble_eq_true rfl) dX0_record_64 (fun H locs hP _ hS => ?_)
        have hP : va_P g.1 vwCl (q_pqW g a b (w_hl (w_nxt (w_sx V (va_up (v_sx V) (v_nxt V + 1) (v_now V))) (if v_nxt V = 5 then 0 else v_nxt V + 1)) (if v_hl V < 6 then v_hl V + 1 else 6))) H := hP
        have hD : va_D (q_adr a b) (q_pqW g a b (w_hl (w_nxt (w_sx V (va_up (v_sx V) (v_nxt V + 1) (v_now V))) (if v_nxt V = 5 then 0 else v_nxt V + 1)) (if v_hl V < 6 then v_hl V + 1 else 6))) := q_D hI (fun _ h => h)
        exact q_mvret hx hb hr hlk dX0_record_67 hP hS (rfl)
      · skip
        have c_36 : v_nxt V = 5 := (nI_eq (by omega) (by decide)).mp (show nI (v_nxt V) = nI 5 from c_36)
        refine lv_iconst (v := 0) hx hb dX0_record_39 (by decide) ?_
        refine lv_goto (tgt := 49) hx hb dX0_record_40 (by decide) ?_
        refine q_reI (show (0 : Int32) = nI (if v_nxt V = 5 then 0 else v_nxt V + 1) from by first | (rw [if_neg c_36, nI_1]) | (rw [if_pos c_36]; rfl)) ?_
        refine va_put (D := g.1) (ci := 0) (v := .int (nI (if v_nxt V = 5 then 0 else v_nxt V + 1))) (ty := .int) (C := RX0) (T := TX0) (N := 3) hx hb hts hi_X0 tyX0 tyX0_ok nmX0 hown hK hP hD hS 3 rfl rfl 1 (by decide) fl_20 (fun _ h9 => h9) rfl (by decide +kernel) rfl rfl (Nat.le_of_ble_eq_true rfl) dX0_record_49 (fun H locs hP _ hS => ?_)
        have hP : va_P g.1 vwCl (q_pqW g a b (w_nxt (w_sx V (va_up (v_sx V) (v_nxt V + 1) (v_now V))) (if v_nxt V = 5 then 0 else v_nxt V + 1))) H := hP
        have hD : va_D (q_adr a b) (q_pqW g a b (w_nxt (w_sx V (va_up (v_sx V) (v_nxt V + 1) (v_now V))) (if v_nxt V = 5 then 0 else v_nxt V + 1))) := q_D hI (fun _ h => h)
        refine lv_aload_n hx hb dX0_record_52 rfl (lv_at hl 0 rfl) ?_
        refine lv_aload_n hx hb dX0_record_53 rfl (lv_at hl 0 rfl) ?_
        refine va_get (D := g.1) (ci := 0) (v := .int (nI (v_hl V))) (C := RX0) (T := TX0) (N := 3) hx hb hts hi_X0 hown hK hP 3 rfl rfl 2 (by decide) fl_16 (fun _ h9 => h9) rfl dX0_record_54 ?_
        refine lv_iconst (v := 1) hx hb dX0_record_57 (by decide) ?_
        refine lv_iadd hx hb dX0_record_58 ?_
        refine lv_bipush (v := 6) hx hb dX0_record_59 (by decide) ?_
        refine q_reI (show (6 : Int32) = 6 from rfl) ?_
        refine va_mmin hx hb (hml.trans hl.1.symm) hown (hts (.methodLink RX0 27 Lib.Math.min.name) (by decide +kernel)) (hts (.static Lib.Math.min.name) (by decide +kernel)) (hts (.initialized "java/lang/Math") (by decide +kernel)) (hts (.code Lib.Math.min.name Lib.Math.min.code 2 (some .int)) (by decide +kernel)) (Nat.le_of_ble_eq_true rfl) (Nat.le_of_ble_eq_true rfl) (Nat.zero_le _) (Nat.zero_le _) dX0_record_61 ?_
        refine q_reI (show ((if 6 < ((nI (v_hl V)) + 1) then 6 else ((nI (v_hl V)) + 1)) : Int32) = nI (if v_hl V < 6 then v_hl V + 1 else 6) from by rw [nI_1]; exact v_recM h2_) ?_
        refine va_put (D := g.1) (ci := 0) (v := .int (nI (if v_hl V < 6 then v_hl V + 1 else 6))) (ty := .int) (C := RX0) (T := TX0) (N := 3) hx hb hts hi_X0 tyX0 tyX0_ok nmX0 hown hK hP hD hS 3 rfl rfl 2 (by decide) fl_16 (fun _ h9 => h9) rfl (by decide +kernel) rfl rfl (Nat.le_of_ble_eq_true rfl) dX0_record_64 (fun H locs hP _ hS => ?_)
        have hP : va_P g.1 vwCl (q_pqW g a b (w_hl (w_nxt (w_sx V (va_up (v_sx V) (v_nxt V + 1) (v_now V))) (if v_nxt V = 5 then 0 else v_nxt V + 1)) (if v_hl V < 6 then v_hl V + 1 else 6))) H := hP
        have hD : va_D (q_adr a b) (q_pqW g a b (w_hl (w_nxt (w_sx V (va_up (v_sx V) (v_nxt V + 1) (v_now V))) (if v_nxt V = 5 then 0 else v_nxt V + 1)) (if v_hl V < 6 then v_hl V + 1 else 6))) := q_D hI (fun _ h => h)
        exact q_mvret hx hb hr hlk dX0_record_67 hP hS (rfl)
    · skip
      exact absurd (nI_lt h1_ (by decide) : nI (v_nxt V) < nI 6) c_13

set_option maxHeartbeats 2000000 in
set_option maxRecDepth 100000 in
theorem c_X0_takeBack (l : Launch) (g : q_G) (a : Nat → Nat → Nat) (b : Nat → Nat) (V : q_CV) (hI : q_inj a b) (h1_ : v_nxt V < 6) (h2_ : 1 ≤ v_hl V) (h3_ : v_hl V ≤ 6) : Met l yX0_takeBack wsX0_takeBack { frames := 2, cells := 0, slots := 0, locals := 61 } (va_Pc [.ref (b 3), .ref (a 0 0)] (q_B g (q_pqW g a b V))) (q_QM g (q_adr a b) (q_pqW g a b (v_und V)) (none)) 0 0 (q_adr a b) := by
  refine q_mm (cc := cX0_takeBack) (maxL := 3) (ret := none) (by decide) rfl (Nat.le_of_ble_eq_true rfl) ?_
  intro p e s m args below meth c ls hx hb hml hown hts hr hlk hnm hB hag hl
  obtain ⟨hP, hK, hN⟩ := hB
  have hS : va_S (q_adr a b) s.heap s.heap [] := va_S.rf
  have hP : va_P g.1 vwCl (q_pqW g a b V) s.heap := hP
  have hD : va_D (q_adr a b) (q_pqW g a b V) := q_D hI (fun _ h => h)
  have fl_11 := hts (.fieldLink RX0 11 "PubQuizzes$History" "states" "[LPubQuizzes$State;") (by decide +kernel)
  have fl_16 := hts (.fieldLink RX0 16 "PubQuizzes$History" "length" "I") (by decide +kernel)
  have fl_20 := hts (.fieldLink RX0 20 "PubQuizzes$History" "next" "I") (by decide +kernel)
  have hi_X0 : ∀ w ∈ u_ws RX0 TX0 3, w ∈ wsX0_takeBack := by decide +kernel
  have hl : lv_has ls 3 [(0, .ref (b 3)), (1, .ref (a 0 0))] := hl
  have hpv : v_prv V < 6 := by unfold v_prv; split <;> omega
  refine lv_aload_n hx hb dX0_takeBack_0 rfl (lv_at hl 0 rfl) ?_
  refine va_get (D := g.1) (ci := 0) (v := .int (nI (v_nxt V))) (C := RX0) (T := TX0) (N := 3) hx hb hts hi_X0 hown hK hP 3 rfl rfl 1 (by decide) fl_20 (fun _ h9 => h9) rfl dX0_takeBack_1 ?_
  refine lv_if_ne (tgt := 11) hx hb dX0_takeBack_4 (by decide) (fun c_4 => ?_) (fun c_4 => ?_)
  · skip
    have c_4 : ¬ v_nxt V = 0 := fun q => c_4 (by rw [q]; rfl)
    refine lv_aload_n hx hb dX0_takeBack_11 rfl (lv_at hl 0 rfl) ?_
    refine va_get (D := g.1) (ci := 0) (v := .int (nI (v_nxt V))) (C := RX0) (T := TX0) (N := 3) hx hb hts hi_X0 hown hK hP 3 rfl rfl 1 (by decide) fl_20 (fun _ h9 => h9) rfl dX0_takeBack_12 ?_
    refine lv_iconst (v := 1) hx hb dX0_takeBack_15 (by decide) ?_
    refine lv_isub hx hb dX0_takeBack_16 ?_
    refine q_reI (show (((nI (v_nxt V)) - 1) : Int32) = nI (v_prv V) from by first | (unfold v_prv; rw [if_neg c_4]; exact pk_sub (b := 1) (by omega)) | (unfold v_prv; rw [if_pos c_4]; rfl)) ?_
    refine lv_istore_n (lv' := [(2, .int (nI (v_prv V))), (0, .ref (b 3)), (1, .ref (a 0 0))]) hx hb dX0_takeBack_17 rfl hl (by decide) rfl (fun ls hl => ?_)
    refine lv_aload_n hx hb dX0_takeBack_18 rfl (lv_at hl 1 rfl) ?_
    refine va_get (D := g.1) (ci := 0) (v := .int (nI (v_hl V))) (C := RX0) (T := TX0) (N := 3) hx hb hts hi_X0 hown hK hP 3 rfl rfl 2 (by decide) fl_16 (fun _ h9 => h9) rfl dX0_takeBack_19 ?_
    refine lv_if_eq (tgt := 35) hx hb dX0_takeBack_22 (by decide) (fun c_22 => ?_) (fun c_22 => ?_)
    · skip
      exact absurd c_22 (nI_ne0 h2_ (by omega))
    · skip
      refine lv_iload_n hx hb dX0_takeBack_25 rfl (lv_at hl 0 rfl) ?_
      refine lv_if_lt (tgt := 35) hx hb dX0_takeBack_26 (by decide) (fun c_26 => ?_) (fun c_26 => ?_)
      · skip
        exact absurd c_26 (nI_pos (by omega))
      · skip
        refine lv_iload_n hx hb dX0_takeBack_29 rfl (lv_at hl 0 rfl) ?_
        refine lv_bipush (v := 6) hx hb dX0_takeBack_30 (by decide) ?_
        refine lv_icmp_lt (tgt := 36) hx hb dX0_takeBack_32 (by decide) (fun c_32 => ?_) (fun c_32 => ?_)
        · skip
          refine lv_aload_n hx hb dX0_takeBack_36 rfl (lv_at hl 1 rfl) ?_
          refine va_get (D := g.1) (ci := 0) (v := .ref (b 4)) (C := RX0) (T := TX0) (N := 3) hx hb hts hi_X0 hown hK hP 3 rfl rfl 0 (by decide) fl_11 (fun _ h9 => h9) rfl dX0_takeBack_37 ?_
          refine lv_iload_n hx hb dX0_takeBack_40 rfl (lv_at hl 0 rfl) ?_
          refine q_aald (j := (v_prv V)) (z := a ((v_prv V) + 1) 0) hx hb hK hP 4 4 rfl rfl rfl (by omega) (by decide) dX0_takeBack_41 ?_
          refine lv_aload_n hx hb dX0_takeBack_42 rfl (lv_at hl 2 rfl) ?_
          have hBk := (q_pqP.mp hP).2
          have hP2 : va_P g.1 vwCl (q_stW g (a ((v_prv V) + 1)) (q_blk V ((v_prv V) + 1)) ++ q_stW g (a 0) (q_blk V 0)) s.heap := q_P_app.mpr ⟨hBk ((v_prv V) + 1) (by omega), hBk 0 (by omega)⟩
          refine q_SM (As := [.ref (a ((v_prv V) + 1) 0), .ref (a 0 0)]) (rest := []) (st2 := []) ⟨hx, hb, hml, hown, hts⟩ (c_X3_copy l g a b ((v_prv V) + 1) 0 _ _ hI (by omega) (by omega) (by omega)) (va_cwS 2 hts gX0_takeBack_X3_copy rfl rfl rfl (by decide +kernel) ⟨Nat.le_of_ble_eq_true rfl, Nat.le_of_ble_eq_true rfl⟩) q_B_blind (q_B_of hP2 hK hN) rfl hl.1 rfl (Nat.le_of_ble_eq_true rfl) dX0_takeBack_43 (Nat.zero_le _) (Nat.zero_le _) hS (fun _ h => q_two_adr (by omega) (by omega) h) rfl rfl rfl (fun H locs hP3 hF3 hS _ => ?_)
          have hP := q_copyJ hI hP (by omega) (by omega) hP3 hF3
          rw [show v_copy V ((v_prv V) + 1) 0 = w_now V (v_sx V (v_prv V + 1)) from rfl] at hP
          have hP : va_P g.1 vwCl (q_pqW g a b (w_now V (v_sx V (v_prv V + 1)))) H := hP
          have hD : va_D (q_adr a b) (q_pqW g a b (w_now V (v_sx V (v_prv V + 1)))) := q_D hI (fun _ h => h)
          refine lv_aload_n hx hb dX0_takeBack_46 rfl (lv_at hl 1 rfl) ?_
          refine lv_iload_n hx hb dX0_takeBack_47 rfl (lv_at hl 0 rfl) ?_
          refine va_put (D := g.1) (ci := 0) (v := .int (nI (v_prv V))) (ty := .int) (C := RX0) (T := TX0) (N := 3) hx hb hts hi_X0 tyX0 tyX0_ok nmX0 hown hK hP hD hS 3 rfl rfl 1 (by decide) fl_20 (fun _ h9 => h9) rfl (by decide +kernel) rfl rfl (Nat.le_of_ble_eq_true rfl) dX0_takeBack_48 (fun H locs hP _ hS => ?_)
          have hP : va_P g.1 vwCl (q_pqW g a b (w_nxt (w_now V (v_sx V (v_prv V + 1))) (v_prv V))) H := hP
          have hD : va_D (q_adr a b) (q_pqW g a b (w_nxt (w_now V (v_sx V (v_prv V + 1))) (v_prv V))) := q_D hI (fun _ h => h)
          refine lv_aload_n hx hb dX0_takeBack_51 rfl (lv_at hl 1 rfl) ?_
          refine lv_dup hx hb dX0_takeBack_52 rfl ?_
          refine va_get (D := g.1) (ci := 0) (v := .int (nI (v_hl V))) (C := RX0) (T := TX0) (N := 3) hx hb hts hi_X0 hown hK hP 3 rfl rfl 2 (by decide) fl_16 (fun _ h9 => h9) rfl dX0_takeBack_53 ?_
          refine lv_iconst (v := 1) hx hb dX0_takeBack_56 (by decide) ?_
          refine lv_isub hx hb dX0_takeBack_57 ?_
          refine q_reI (show (((nI (v_hl V)) - 1) : Int32) = nI (v_hl V - 1) from pk_sub (b := 1) (by omega)) ?_
          refine va_put (D := g.1) (ci := 0) (v := .int (nI (v_hl V - 1))) (ty := .int) (C := RX0) (T := TX0) (N := 3) hx hb hts hi_X0 tyX0 tyX0_ok nmX0 hown hK hP hD hS 3 rfl rfl 2 (by decide) fl_16 (fun _ h9 => h9) rfl (by decide +kernel) rfl rfl (Nat.le_of_ble_eq_true rfl) dX0_takeBack_58 (fun H locs hP _ hS => ?_)
          have hP : va_P g.1 vwCl (q_pqW g a b (w_hl (w_nxt (w_now V (v_sx V (v_prv V + 1))) (v_prv V)) (v_hl V - 1))) H := hP
          have hD : va_D (q_adr a b) (q_pqW g a b (w_hl (w_nxt (w_now V (v_sx V (v_prv V + 1))) (v_prv V)) (v_hl V - 1))) := q_D hI (fun _ h => h)
          exact q_mvret hx hb hr hlk dX0_takeBack_61 hP hS (rfl)
        · skip
          exact absurd (nI_lt hpv (by decide) : nI (v_prv V) < nI 6) c_32
  · skip
    have c_4 : v_nxt V = 0 := (nI_eq (by omega) (by decide)).mp (show nI (v_nxt V) = nI 0 from c_4)
    refine lv_iconst (v := 5) hx hb dX0_takeBack_7 (by decide) ?_
    refine lv_goto (tgt := 17) hx hb dX0_takeBack_8 (by decide) ?_
    refine q_reI (show (5 : Int32) = nI (v_prv V) from by first | (unfold v_prv; rw [if_neg c_4]; exact pk_sub (b := 1) (by omega)) | (unfold v_prv; rw [if_pos c_4]; rfl)) ?_
    refine lv_istore_n (lv' := [(2, .int (nI (v_prv V))), (0, .ref (b 3)), (1, .ref (a 0 0))]) hx hb dX0_takeBack_17 rfl hl (by decide) rfl (fun ls hl => ?_)
    refine lv_aload_n hx hb dX0_takeBack_18 rfl (lv_at hl 1 rfl) ?_
    refine va_get (D := g.1) (ci := 0) (v := .int (nI (v_hl V))) (C := RX0) (T := TX0) (N := 3) hx hb hts hi_X0 hown hK hP 3 rfl rfl 2 (by decide) fl_16 (fun _ h9 => h9) rfl dX0_takeBack_19 ?_
    refine lv_if_eq (tgt := 35) hx hb dX0_takeBack_22 (by decide) (fun c_22 => ?_) (fun c_22 => ?_)
    · skip
      exact absurd c_22 (nI_ne0 h2_ (by omega))
    · skip
      refine lv_iload_n hx hb dX0_takeBack_25 rfl (lv_at hl 0 rfl) ?_
      refine lv_if_lt (tgt := 35) hx hb dX0_takeBack_26 (by decide) (fun c_26 => ?_) (fun c_26 => ?_)
      · skip
        exact absurd c_26 (nI_pos (by omega))
      · skip
        refine lv_iload_n hx hb dX0_takeBack_29 rfl (lv_at hl 0 rfl) ?_
        refine lv_bipush (v := 6) hx hb dX0_takeBack_30 (by decide) ?_
        refine lv_icmp_lt (tgt := 36) hx hb dX0_takeBack_32 (by decide) (fun c_32 => ?_) (fun c_32 => ?_)
        · skip
          refine lv_aload_n hx hb dX0_takeBack_36 rfl (lv_at hl 1 rfl) ?_
          refine va_get (D := g.1) (ci := 0) (v := .ref (b 4)) (C := RX0) (T := TX0) (N := 3) hx hb hts hi_X0 hown hK hP 3 rfl rfl 0 (by decide) fl_11 (fun _ h9 => h9) rfl dX0_takeBack_37 ?_
          refine lv_iload_n hx hb dX0_takeBack_40 rfl (lv_at hl 0 rfl) ?_
          refine q_aald (j := (v_prv V)) (z := a ((v_prv V) + 1) 0) hx hb hK hP 4 4 rfl rfl rfl (by omega) (by decide) dX0_takeBack_41 ?_
          refine lv_aload_n hx hb dX0_takeBack_42 rfl (lv_at hl 2 rfl) ?_
          have hBk := (q_pqP.mp hP).2
          have hP2 : va_P g.1 vwCl (q_stW g (a ((v_prv V) + 1)) (q_blk V ((v_prv V) + 1)) ++ q_stW g (a 0) (q_blk V 0)) s.heap := q_P_app.mpr ⟨hBk ((v_prv V) + 1) (by omega), hBk 0 (by omega)⟩
          refine q_SM (As := [.ref (a ((v_prv V) + 1) 0), .ref (a 0 0)]) (rest := []) (st2 := []) ⟨hx, hb, hml, hown, hts⟩ (c_X3_copy l g a b ((v_prv V) + 1) 0 _ _ hI (by omega) (by omega) (by omega)) (va_cwS 2 hts gX0_takeBack_X3_copy rfl rfl rfl (by decide +kernel) ⟨Nat.le_of_ble_eq_true rfl, Nat.le_of_ble_eq_true rfl⟩) q_B_blind (q_B_of hP2 hK hN) rfl hl.1 rfl (Nat.le_of_ble_eq_true rfl) dX0_takeBack_43 (Nat.zero_le _) (Nat.zero_le _) hS (fun _ h => q_two_adr (by omega) (by omega) h) rfl rfl rfl (fun H locs hP3 hF3 hS _ => ?_)
          have hP := q_copyJ hI hP (by omega) (by omega) hP3 hF3
          rw [show v_copy V ((v_prv V) + 1) 0 = w_now V (v_sx V (v_prv V + 1)) from rfl] at hP
          have hP : va_P g.1 vwCl (q_pqW g a b (w_now V (v_sx V (v_prv V + 1)))) H := hP
          have hD : va_D (q_adr a b) (q_pqW g a b (w_now V (v_sx V (v_prv V + 1)))) := q_D hI (fun _ h => h)
          refine lv_aload_n hx hb dX0_takeBack_46 rfl (lv_at hl 1 rfl) ?_
          refine lv_iload_n hx hb dX0_takeBack_47 rfl (lv_at hl 0 rfl) ?_
          refine va_put (D := g.1) (ci := 0) (v := .int (nI (v_prv V))) (ty := .int) (C := RX0) (T := TX0) (N := 3) hx hb hts hi_X0 tyX0 tyX0_ok nmX0 hown hK hP hD hS 3 rfl rfl 1 (by decide) fl_20 (fun _ h9 => h9) rfl (by decide +kernel) rfl rfl (Nat.le_of_ble_eq_true rfl) dX0_takeBack_48 (fun H locs hP _ hS => ?_)
          have hP : va_P g.1 vwCl (q_pqW g a b (w_nxt (w_now V (v_sx V (v_prv V + 1))) (v_prv V))) H := hP
          have hD : va_D (q_adr a b) (q_pqW g a b (w_nxt (w_now V (v_sx V (v_prv V + 1))) (v_prv V))) := q_D hI (fun _ h => h)
          refine lv_aload_n hx hb dX0_takeBack_51 rfl (lv_at hl 1 rfl) ?_
          refine lv_dup hx hb dX0_takeBack_52 rfl ?_
          refine va_get (D := g.1) (ci := 0) (v := .int (nI (v_hl V))) (C := RX0) (T := TX0) (N := 3) hx hb hts hi_X0 hown hK hP 3 rfl rfl 2 (by decide) fl_16 (fun _ h9 => h9) rfl dX0_takeBack_53 ?_
          refine lv_iconst (v := 1) hx hb dX0_takeBack_56 (by decide) ?_
          refine lv_isub hx hb dX0_takeBack_57 ?_
          refine q_reI (show (((nI (v_hl V)) - 1) : Int32) = nI (v_hl V - 1) from pk_sub (b := 1) (by omega)) ?_
          refine va_put (D := g.1) (ci := 0) (v := .int (nI (v_hl V - 1))) (ty := .int) (C := RX0) (T := TX0) (N := 3) hx hb hts hi_X0 tyX0 tyX0_ok nmX0 hown hK hP hD hS 3 rfl rfl 2 (by decide) fl_16 (fun _ h9 => h9) rfl (by decide +kernel) rfl rfl (Nat.le_of_ble_eq_true rfl) dX0_takeBack_58 (fun H locs hP _ hS => ?_)
          have hP : va_P g.1 vwCl (q_pqW g a b (w_hl (w_nxt (w_now V (v_sx V (v_prv V + 1))) (v_prv V)) (v_hl V - 1))) H := hP
          have hD : va_D (q_adr a b) (q_pqW g a b (w_hl (w_nxt (w_now V (v_sx V (v_prv V + 1))) (v_prv V)) (v_hl V - 1))) := q_D hI (fun _ h => h)
          exact q_mvret hx hb hr hlk dX0_takeBack_61 hP hS (rfl)
        · skip
          exact absurd (nI_lt hpv (by decide) : nI (v_prv V) < nI 6) c_32
