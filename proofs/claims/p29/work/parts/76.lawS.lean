/-! the law on sheets -/

set_option maxHeartbeats 4000000 in
set_option maxRecDepth 100000 in
theorem c_L_areSheets (l : Launch) (g : q_G) (a : Nat → Nat → Nat) (b : Nat → Nat) (V : q_CV) (K : Nat) (hv : q_iv K V) (hK5 : K ≤ 512) : q_PM l yL_areSheets wsL_areSheets { frames := 7, cells := 0, slots := 0, locals := 163 } [.ref (b 0)] (q_B g (q_pqW g a b V)) (.int (bI true)) := by
  refine q_pm (cc := cL_areSheets) (maxL := 16) (ret := (some .boolean)) (by decide) rfl (Nat.le_of_ble_eq_true rfl) ?_
  intro p e s m args below meth c ls hx hb hml hown hts hr hlk hB hl
  obtain ⟨hP, hK, hN⟩ := hB
  have hl : lv_has ls 16 [(0, .ref (b 0))] := hl
  obtain ⟨ho, hpx, hpl, hh6, hn6⟩ := id hv
  have hn10 := ok_n ho
  have hn3 := hpx.1
  refine lv_iconst (v := 0) hx hb dL_areSheets_0 (by decide) ?_
  refine lv_istore_n (lv' := [(1, .int 0), (0, .ref (b 0))]) hx hb dL_areSheets_1 rfl hl (by decide) rfl (fun ls hl => ?_)
  refine lv_iconst (v := 0) hx hb dL_areSheets_2 (by decide) ?_
  refine lv_istore_n (lv' := [(2, .int 0), (1, .int 0), (0, .ref (b 0))]) hx hb dL_areSheets_3 rfl hl (by decide) rfl (fun ls hl => ?_)
  refine lv_iconst (v := 1) hx hb dL_areSheets_4 (by decide) ?_
  refine lv_istore_n (lv' := [(3, .int 1), (2, .int 0), (1, .int 0), (0, .ref (b 0))]) hx hb dL_areSheets_5 rfl hl (by decide) rfl (fun ls hl => ?_)
  refine lv_iconst (v := 0) hx hb dL_areSheets_6 (by decide) ?_
  refine lv_istore (lv' := [(4, .int 0), (3, .int 1), (2, .int 0), (1, .int 0), (0, .ref (b 0))]) hx hb dL_areSheets_7 hl (by decide) rfl (fun ls hl => ?_)
  have L_9 : ∀ (fu i9 : Nat) (y2_9 : Int32) (y1_9 : Int32), y2_9 = q_acc 0 (s_fin (v_now V)) i9 → y1_9 = nI (wroA (v_now V) i9) → i9 ≤ s_n (v_now V) → s_n (v_now V) < i9 + fu → ∀ ls : Array Slot, lv_has ls 16 [(4, .int (nI i9)), (3, .int 1), (2, .int y2_9), (1, .int y1_9), (0, .ref (b 0))] → W p l e { frames := 7, cells := 0, slots := 0, locals := 163 } s m args below meth c s.heap [] 0 0 (MQ below (k2_QcV (.int (bI true))) args s 0 0 (fun _ => False)) (F0 m 9 ls []) := by
    intro fu
    induction fu with
    | zero => intro i9 y2_9 y1_9 ey2_9 ey1_9 hi_i9 hn_i9; exact absurd hn_i9 (by omega)
    | succ fu ih_i9 =>
      intro i9 y2_9 y1_9 ey2_9 ey1_9 hi_i9 hn_i9 ls hl
      subst ey2_9
      subst ey1_9
      refine lv_iload hx hb dL_areSheets_9 (lv_at hl 0 rfl) ?_
      refine lv_aload_n hx hb dL_areSheets_11 rfl (lv_at hl 4 rfl) ?_
      refine lv_iconst (v := 0) hx hb dL_areSheets_12 (by decide) ?_
      refine q_V (As := [.int 0]) (rest := [.int (nI i9)]) ⟨hx, hb, hml, hown, hts⟩ (c_X4_count l g a b V 0 (by omega)) (cwV 1 hts gL_areSheets_X4_count rfl rfl rfl (by decide +kernel) ⟨Nat.le_of_ble_eq_true rfl, Nat.le_of_ble_eq_true rfl⟩) q_B_blind (va_recv hK hP (ci := 3) (q0 := 0) rfl rfl) (q_B_of hP hK hN) rfl hl.1 rfl (Nat.le_of_ble_eq_true rfl) dL_areSheets_13 (Nat.zero_le _) (Nat.zero_le _) ?_
      refine q_reI (show (couR V 0 : Int32) = nI (s_n (v_now V)) from w_c0) ?_
      refine lv_icmp_ge (tgt := 507) hx hb dL_areSheets_16 (by decide) (fun c_16 => ?_) (fun c_16 => ?_)
      · skip
        have e_16 : i9 = s_n (v_now V) := q_ge_T (by omega) hi_i9 c_16
        subst e_16
        refine lv_iload_n hx hb dL_areSheets_507 rfl (lv_at hl 1 rfl) ?_
        refine lv_if_eq (tgt := 532) hx hb dL_areSheets_508 (by decide) (fun c_508 => ?_) (fun c_508 => ?_)
        · skip
          exact absurd c_508 (by decide)
        · skip
          refine lv_iload_n hx hb dL_areSheets_511 rfl (lv_at hl 3 rfl) ?_
          refine lv_aload_n hx hb dL_areSheets_512 rfl (lv_at hl 4 rfl) ?_
          refine q_V (As := []) (rest := [.int (nI (wroA (v_now V) (s_n (v_now V))))]) ⟨hx, hb, hml, hown, hts⟩ (c_X4_wrongMarks l g a b V  (by omega)) (cwV 0 hts gL_areSheets_X4_wrongMarks rfl rfl rfl (by decide +kernel) ⟨Nat.le_of_ble_eq_true rfl, Nat.le_of_ble_eq_true rfl⟩) q_B_blind (va_recv hK hP (ci := 3) (q0 := 0) rfl rfl) (q_B_of hP hK hN) rfl hl.1 rfl (Nat.le_of_ble_eq_true rfl) dL_areSheets_513 (Nat.zero_le _) (Nat.zero_le _) ?_
          refine lv_icmp_ne (tgt := 532) hx hb dL_areSheets_516 (by decide) (fun c_516 => ?_) (fun c_516 => ?_)
          · skip
            exact absurd rfl c_516
          · skip
            refine lv_iload_n hx hb dL_areSheets_519 rfl (lv_at hl 2 rfl) ?_
            refine lv_aload_n hx hb dL_areSheets_520 rfl (lv_at hl 4 rfl) ?_
            refine lv_iconst (v := 5) hx hb dL_areSheets_521 (by decide) ?_
            refine q_V (As := [.int 5]) (rest := [.int (q_acc 0 (s_fin (v_now V)) (s_n (v_now V)))]) ⟨hx, hb, hml, hown, hts⟩ (c_X4_count l g a b V 5 (by omega)) (cwV 1 hts gL_areSheets_X4_count rfl rfl rfl (by decide +kernel) ⟨Nat.le_of_ble_eq_true rfl, Nat.le_of_ble_eq_true rfl⟩) q_B_blind (va_recv hK hP (ci := 3) (q0 := 0) rfl rfl) (q_B_of hP hK hN) rfl hl.1 rfl (Nat.le_of_ble_eq_true rfl) dL_areSheets_522 (Nat.zero_le _) (Nat.zero_le _) ?_
            refine lv_icmp_ne (tgt := 532) hx hb dL_areSheets_525 (by decide) (fun c_525 => ?_) (fun c_525 => ?_)
            · skip
              refine (c_525 ?_).elim; exact (w_c5 (V := V)).symm
            · skip
              refine lv_iconst (v := 1) hx hb dL_areSheets_528 (by decide) ?_
              refine lv_goto (tgt := 533) hx hb dL_areSheets_529 (by decide) ?_
              exact q_zret hx hb hr hlk dL_areSheets_533 (rfl)
      · skip
        have lt_i9 : i9 < s_n (v_now V) := q_ge_F (by omega) hi_i9 c_16
        refine lv_iload_n hx hb dL_areSheets_19 rfl (lv_at hl 1 rfl) ?_
        refine lv_if_eq (tgt := 507) hx hb dL_areSheets_20 (by decide) (fun c_20 => ?_) (fun c_20 => ?_)
        · skip
          exact absurd c_20 (by decide)
        · skip
          refine lv_sipush (v := 1000) hx hb dL_areSheets_23 (by decide) ?_
          refine lv_aload_n hx hb dL_areSheets_26 rfl (lv_at hl 4 rfl) ?_
          refine lv_bipush (v := 12) hx hb dL_areSheets_27 (by decide) ?_
          refine q_V (As := [.int 12]) (rest := [.int 1000]) ⟨hx, hb, hml, hown, hts⟩ (c_X4_count l g a b V 12 (by omega)) (cwV 1 hts gL_areSheets_X4_count rfl rfl rfl (by decide +kernel) ⟨Nat.le_of_ble_eq_true rfl, Nat.le_of_ble_eq_true rfl⟩) q_B_blind (va_recv hK hP (ci := 3) (q0 := 0) rfl rfl) (q_B_of hP hK hN) rfl hl.1 rfl (Nat.le_of_ble_eq_true rfl) dL_areSheets_29 (Nat.zero_le _) (Nat.zero_le _) ?_
          refine q_reI (show (couR V 12 : Int32) = s_set (v_now V) 3 from w_c12) ?_
          refine lv_aload_n hx hb dL_areSheets_32 rfl (lv_at hl 4 rfl) ?_
          refine lv_iload hx hb dL_areSheets_33 (lv_at hl 0 rfl) ?_
          refine lv_iconst (v := 4) hx hb dL_areSheets_35 (by decide) ?_
          refine q_V (As := [.int (nI i9), .int 4]) (rest := [.int (s_set (v_now V) 3), .int 1000]) ⟨hx, hb, hml, hown, hts⟩ (c_X4_ofTeam l g a b V (nI i9) 4 (by omega)) (cwV 2 hts gL_areSheets_X4_ofTeam rfl rfl rfl (by decide +kernel) ⟨Nat.le_of_ble_eq_true rfl, Nat.le_of_ble_eq_true rfl⟩) q_B_blind (va_recv hK hP (ci := 3) (q0 := 0) rfl rfl) (q_B_of hP hK hN) rfl hl.1 rfl (Nat.le_of_ble_eq_true rfl) dL_areSheets_36 (Nat.zero_le _) (Nat.zero_le _) ?_
          refine q_reI (show (oftR V (nI i9) 4 : Int32) = s_fin (v_now V) i9 from w_o4 hn10 lt_i9) ?_
          refine lv_imul hx hb dL_areSheets_39 ?_
          refine lv_isub hx hb dL_areSheets_40 ?_
          refine lv_istore (lv' := [(5, .int (1000 - ((s_set (v_now V) 3) * (s_fin (v_now V) i9)))), (4, .int (nI i9)), (3, .int 1), (2, .int (q_acc 0 (s_fin (v_now V)) i9)), (1, .int (nI (wroA (v_now V) i9))), (0, .ref (b 0))]) hx hb dL_areSheets_41 hl (by decide) rfl (fun ls hl => ?_)
          refine lv_iconst (v := 0) hx hb dL_areSheets_43 (by decide) ?_
          refine lv_istore (lv' := [(6, .int 0), (5, .int (1000 - ((s_set (v_now V) 3) * (s_fin (v_now V) i9)))), (4, .int (nI i9)), (3, .int 1), (2, .int (q_acc 0 (s_fin (v_now V)) i9)), (1, .int (nI (wroA (v_now V) i9))), (0, .ref (b 0))]) hx hb dL_areSheets_44 hl (by decide) rfl (fun ls hl => ?_)
          refine lv_iconst (v := 0) hx hb dL_areSheets_46 (by decide) ?_
          refine lv_istore (lv' := [(7, .int 0), (6, .int 0), (5, .int (1000 - ((s_set (v_now V) 3) * (s_fin (v_now V) i9)))), (4, .int (nI i9)), (3, .int 1), (2, .int (q_acc 0 (s_fin (v_now V)) i9)), (1, .int (nI (wroA (v_now V) i9))), (0, .ref (b 0))]) hx hb dL_areSheets_47 hl (by decide) rfl (fun ls hl => ?_)
          refine lv_iconst (v := 0) hx hb dL_areSheets_49 (by decide) ?_
          refine lv_istore (lv' := [(8, .int 0), (7, .int 0), (6, .int 0), (5, .int (1000 - ((s_set (v_now V) 3) * (s_fin (v_now V) i9)))), (4, .int (nI i9)), (3, .int 1), (2, .int (q_acc 0 (s_fin (v_now V)) i9)), (1, .int (nI (wroA (v_now V) i9))), (0, .ref (b 0))]) hx hb dL_areSheets_50 hl (by decide) rfl (fun ls hl => ?_)
          have L_52 : ∀ (fu i52 : Nat) (y7_52 : Int32) (y6_52 : Int32) (y5_52 : Int32) (y1_52 : Int32), y7_52 = q_or (tldS (v_now V) i9) i52 → y6_52 = q_or (hasS (v_now V) i9) i52 → y5_52 = q_acc (fineS (v_now V) i9) (ptsS (v_now V) i9) i52 + 1000 → y1_52 = nI (wroA (v_now V) i9 + q_cnt (wroS (v_now V) i9) i52) → i52 ≤ 8 → 8 < i52 + fu → ∀ ls : Array Slot, lv_has ls 16 [(8, .int (nI i52)), (7, .int y7_52), (6, .int y6_52), (5, .int y5_52), (4, .int (nI i9)), (3, .int 1), (2, .int (q_acc 0 (s_fin (v_now V)) i9)), (1, .int y1_52), (0, .ref (b 0))] → W p l e { frames := 7, cells := 0, slots := 0, locals := 163 } s m args below meth c s.heap [] 0 0 (MQ below (k2_QcV (.int (bI true))) args s 0 0 (fun _ => False)) (F0 m 52 ls []) := by
            intro fu
            induction fu with
            | zero => intro i52 y7_52 y6_52 y5_52 y1_52 ey7_52 ey6_52 ey5_52 ey1_52 hi_i52 hn_i52; exact absurd hn_i52 (by omega)
            | succ fu ih_i52 =>
              intro i52 y7_52 y6_52 y5_52 y1_52 ey7_52 ey6_52 ey5_52 ey1_52 hi_i52 hn_i52 ls hl
              subst ey7_52
              subst ey6_52
              subst ey5_52
              subst ey1_52
              refine lv_iload hx hb dL_areSheets_52 (lv_at hl 0 rfl) ?_
              refine lv_bipush (v := 8) hx hb dL_areSheets_54 (by decide) ?_
              refine lv_icmp_ge (tgt := 414) hx hb dL_areSheets_56 (by decide) (fun c_56 => ?_) (fun c_56 => ?_)
              · skip
                have e_56 : i52 = 8 := q_ge_T (by omega) hi_i52 c_56
                subst e_56
                refine lv_iload_n hx hb dL_areSheets_414 rfl (lv_at hl 6 rfl) ?_
                refine lv_aload_n hx hb dL_areSheets_415 rfl (lv_at hl 8 rfl) ?_
                refine lv_iload hx hb dL_areSheets_416 (lv_at hl 4 rfl) ?_
                refine lv_iconst (v := 4) hx hb dL_areSheets_418 (by decide) ?_
                refine q_V (As := [.int (nI i9), .int 4]) (rest := [.int (q_acc 0 (s_fin (v_now V)) i9)]) ⟨hx, hb, hml, hown, hts⟩ (c_X4_ofTeam l g a b V (nI i9) 4 (by omega)) (cwV 2 hts gL_areSheets_X4_ofTeam rfl rfl rfl (by decide +kernel) ⟨Nat.le_of_ble_eq_true rfl, Nat.le_of_ble_eq_true rfl⟩) q_B_blind (va_recv hK hP (ci := 3) (q0 := 0) rfl rfl) (q_B_of hP hK hN) rfl hl.1 rfl (Nat.le_of_ble_eq_true rfl) dL_areSheets_419 (Nat.zero_le _) (Nat.zero_le _) ?_
                refine q_reI (show (oftR V (nI i9) 4 : Int32) = s_fin (v_now V) i9 from w_o4 hn10 lt_i9) ?_
                refine lv_iadd hx hb dL_areSheets_422 ?_
                refine lv_istore_n (lv' := [(2, .int ((q_acc 0 (s_fin (v_now V)) i9) + (s_fin (v_now V) i9))), (8, .int (nI 8)), (7, .int (q_or (tldS (v_now V) i9) 8)), (6, .int (q_or (hasS (v_now V) i9) 8)), (5, .int (q_acc (fineS (v_now V) i9) (ptsS (v_now V) i9) 8 + 1000)), (4, .int (nI i9)), (3, .int 1), (1, .int (nI (wroA (v_now V) i9 + q_cnt (wroS (v_now V) i9) 8))), (0, .ref (b 0))]) hx hb dL_areSheets_423 rfl hl (by decide) rfl (fun ls hl => ?_)
                refine lv_iload_n hx hb dL_areSheets_424 rfl (lv_at hl 6 rfl) ?_
                refine lv_if_eq (tgt := 499) hx hb dL_areSheets_425 (by decide) (fun c_425 => ?_) (fun c_425 => ?_)
                · skip
                  exact absurd c_425 (by decide)
                · skip
                  refine lv_iload hx hb dL_areSheets_428 (lv_at hl 4 rfl) ?_
                  refine lv_aload_n hx hb dL_areSheets_430 rfl (lv_at hl 8 rfl) ?_
                  refine lv_iload hx hb dL_areSheets_431 (lv_at hl 5 rfl) ?_
                  refine lv_iconst (v := 0) hx hb dL_areSheets_433 (by decide) ?_
                  refine q_V (As := [.int (nI i9), .int 0]) (rest := [.int (q_acc (fineS (v_now V) i9) (ptsS (v_now V) i9) 8 + 1000)]) ⟨hx, hb, hml, hown, hts⟩ (c_X4_ofTeam l g a b V (nI i9) 0 (by omega)) (cwV 2 hts gL_areSheets_X4_ofTeam rfl rfl rfl (by decide +kernel) ⟨Nat.le_of_ble_eq_true rfl, Nat.le_of_ble_eq_true rfl⟩) q_B_blind (va_recv hK hP (ci := 3) (q0 := 0) rfl rfl) (q_B_of hP hK hN) rfl hl.1 rfl (Nat.le_of_ble_eq_true rfl) dL_areSheets_434 (Nat.zero_le _) (Nat.zero_le _) ?_
                  refine q_reI (show (oftR V (nI i9) 0 : Int32) = scoS (v_now V) i9 + 1000 from w_o0 hn10 lt_i9) ?_
                  refine lv_icmp_ne (tgt := 499) hx hb dL_areSheets_437 (by decide) (fun c_437 => ?_) (fun c_437 => ?_)
                  · skip
                    exact absurd rfl c_437
                  · skip
                    refine lv_iload hx hb dL_areSheets_440 (lv_at hl 3 rfl) ?_
                    refine lv_aload_n hx hb dL_areSheets_442 rfl (lv_at hl 8 rfl) ?_
                    refine lv_iload hx hb dL_areSheets_443 (lv_at hl 5 rfl) ?_
                    refine lv_bipush (v := 6) hx hb dL_areSheets_445 (by decide) ?_
                    refine q_V (As := [.int (nI i9), .int 6]) (rest := [.int (q_or (hasS (v_now V) i9) 8)]) ⟨hx, hb, hml, hown, hts⟩ (c_X4_ofTeam l g a b V (nI i9) 6 (by omega)) (cwV 2 hts gL_areSheets_X4_ofTeam rfl rfl rfl (by decide +kernel) ⟨Nat.le_of_ble_eq_true rfl, Nat.le_of_ble_eq_true rfl⟩) q_B_blind (va_recv hK hP (ci := 3) (q0 := 0) rfl rfl) (q_B_of hP hK hN) rfl hl.1 rfl (Nat.le_of_ble_eq_true rfl) dL_areSheets_447 (Nat.zero_le _) (Nat.zero_le _) ?_
                    refine q_reI (show (oftR V (nI i9) 6 : Int32) = q_or (hasS (v_now V) i9) 8 from w_o6 hn10 lt_i9) ?_
                    refine lv_icmp_ne (tgt := 499) hx hb dL_areSheets_450 (by decide) (fun c_450 => ?_) (fun c_450 => ?_)
                    · skip
                      exact absurd rfl c_450
                    · skip
                      refine lv_iload hx hb dL_areSheets_453 (lv_at hl 2 rfl) ?_
                      refine lv_aload_n hx hb dL_areSheets_455 rfl (lv_at hl 8 rfl) ?_
                      refine lv_iload hx hb dL_areSheets_456 (lv_at hl 5 rfl) ?_
                      refine lv_bipush (v := 7) hx hb dL_areSheets_458 (by decide) ?_
                      refine q_V (As := [.int (nI i9), .int 7]) (rest := [.int (q_or (tldS (v_now V) i9) 8)]) ⟨hx, hb, hml, hown, hts⟩ (c_X4_ofTeam l g a b V (nI i9) 7 (by omega)) (cwV 2 hts gL_areSheets_X4_ofTeam rfl rfl rfl (by decide +kernel) ⟨Nat.le_of_ble_eq_true rfl, Nat.le_of_ble_eq_true rfl⟩) q_B_blind (va_recv hK hP (ci := 3) (q0 := 0) rfl rfl) (q_B_of hP hK hN) rfl hl.1 rfl (Nat.le_of_ble_eq_true rfl) dL_areSheets_460 (Nat.zero_le _) (Nat.zero_le _) ?_
                      refine q_reI (show (oftR V (nI i9) 7 : Int32) = q_or (tldS (v_now V) i9) 8 from w_o7 hn10 lt_i9) ?_
                      refine lv_icmp_ne (tgt := 499) hx hb dL_areSheets_463 (by decide) (fun c_463 => ?_) (fun c_463 => ?_)
                      · skip
                        exact absurd rfl c_463
                      · skip
                        refine lv_aload_n hx hb dL_areSheets_466 rfl (lv_at hl 8 rfl) ?_
                        refine lv_iload hx hb dL_areSheets_467 (lv_at hl 5 rfl) ?_
                        refine lv_iconst (v := 1) hx hb dL_areSheets_469 (by decide) ?_
                        refine q_V (As := [.int (nI i9), .int 1]) (rest := []) ⟨hx, hb, hml, hown, hts⟩ (c_X4_bestJoker l g a b V (nI i9) 1 (by omega)) (cwV 2 hts gL_areSheets_X4_bestJoker rfl rfl rfl (by decide +kernel) ⟨Nat.le_of_ble_eq_true rfl, Nat.le_of_ble_eq_true rfl⟩) q_B_blind (va_recv hK hP (ci := 3) (q0 := 0) rfl rfl) (q_B_of hP hK hN) rfl hl.1 rfl (Nat.le_of_ble_eq_true rfl) dL_areSheets_470 (Nat.zero_le _) (Nat.zero_le _) ?_
                        refine q_reI (show (bejR V (nI i9) 1 : Int32) = swjS (v_now V) i9 (nI (besS (v_now V) i9 8)) + 1000 from w_be hn10 lt_i9) ?_
                        refine lv_iload hx hb dL_areSheets_473 (lv_at hl 4 rfl) ?_
                        refine lv_aload_n hx hb dL_areSheets_475 rfl (lv_at hl 8 rfl) ?_
                        refine lv_iload hx hb dL_areSheets_476 (lv_at hl 5 rfl) ?_
                        refine lv_iconst (v := 3) hx hb dL_areSheets_478 (by decide) ?_
                        refine q_V (As := [.int (nI i9), .int 3]) (rest := [.int (q_acc (fineS (v_now V) i9) (ptsS (v_now V) i9) 8 + 1000), .int (swjS (v_now V) i9 (nI (besS (v_now V) i9 8)) + 1000)]) ⟨hx, hb, hml, hown, hts⟩ (c_X4_ofTeam l g a b V (nI i9) 3 (by omega)) (cwV 2 hts gL_areSheets_X4_ofTeam rfl rfl rfl (by decide +kernel) ⟨Nat.le_of_ble_eq_true rfl, Nat.le_of_ble_eq_true rfl⟩) q_B_blind (va_recv hK hP (ci := 3) (q0 := 0) rfl rfl) (q_B_of hP hK hN) rfl hl.1 rfl (Nat.le_of_ble_eq_true rfl) dL_areSheets_479 (Nat.zero_le _) (Nat.zero_le _) ?_
                        refine q_reI (show (oftR V (nI i9) 3 : Int32) = s_jok (v_now V) i9 from w_o3 hn10 lt_i9) ?_
                        refine lv_if_ge (tgt := 490) hx hb dL_areSheets_482 (by decide) (fun c_482 => ?_) (fun c_482 => ?_)
                        · skip
                          refine lv_iconst (v := 0) hx hb dL_areSheets_490 (by decide) ?_
                          refine lv_isub hx hb dL_areSheets_491 ?_
                          refine lv_icmp_lt (tgt := 499) hx hb dL_areSheets_492 (by decide) (fun c_492 => ?_) (fun c_492 => ?_)
                          · skip
                            first | exact absurd c_492 ((w_best ho hK5 (t := i9) (by omega)).2.1 (Int32.not_lt.mpr c_482)) | exact absurd c_492 ((w_best ho hK5 (t := i9) (by omega)).2.2 (Int32.not_le.mp c_482))
                          · skip
                            refine lv_iconst (v := 1) hx hb dL_areSheets_495 (by decide) ?_
                            refine lv_goto (tgt := 500) hx hb dL_areSheets_496 (by decide) ?_
                            refine lv_istore_n (lv' := [(3, .int 1), (2, .int ((q_acc 0 (s_fin (v_now V)) i9) + (s_fin (v_now V) i9))), (8, .int (nI 8)), (7, .int (q_or (tldS (v_now V) i9) 8)), (6, .int (q_or (hasS (v_now V) i9) 8)), (5, .int (q_acc (fineS (v_now V) i9) (ptsS (v_now V) i9) 8 + 1000)), (4, .int (nI i9)), (1, .int (nI (wroA (v_now V) i9 + q_cnt (wroS (v_now V) i9) 8))), (0, .ref (b 0))]) hx hb dL_areSheets_500 rfl hl (by decide) rfl (fun ls hl => ?_)
                            refine lv_iinc (v := nI (i9 + 1)) (lv' := [(4, .int (nI (i9 + 1))), (3, .int 1), (2, .int ((q_acc 0 (s_fin (v_now V)) i9) + (s_fin (v_now V) i9))), (8, .int (nI 8)), (7, .int (q_or (tldS (v_now V) i9) 8)), (6, .int (q_or (hasS (v_now V) i9) 8)), (5, .int (q_acc (fineS (v_now V) i9) (ptsS (v_now V) i9) 8 + 1000)), (1, .int (nI (wroA (v_now V) i9 + q_cnt (wroS (v_now V) i9) 8))), (0, .ref (b 0))]) hx hb dL_areSheets_501 hl (k := 6) rfl (nI_1 _) (by decide) rfl (fun ls hl => ?_)
                            refine lv_goto (tgt := 9) hx hb dL_areSheets_504 (by decide) ?_
                            exact ih_i9 (i9 + 1) ((q_acc 0 (s_fin (v_now V)) i9) + (s_fin (v_now V) i9)) (nI (wroA (v_now V) i9 + q_cnt (wroS (v_now V) i9) 8)) (rfl) (rfl) lt_i9 (by omega) ls (lv_sub hl [0, 1, 2, 7, 8] rfl)
                        · skip
                          refine lv_bipush (v := 20) hx hb dL_areSheets_485 (by decide) ?_
                          refine lv_goto (tgt := 491) hx hb dL_areSheets_487 (by decide) ?_
                          refine lv_isub hx hb dL_areSheets_491 ?_
                          refine lv_icmp_lt (tgt := 499) hx hb dL_areSheets_492 (by decide) (fun c_492 => ?_) (fun c_492 => ?_)
                          · skip
                            first | exact absurd c_492 ((w_best ho hK5 (t := i9) (by omega)).2.1 (Int32.not_lt.mpr c_482)) | exact absurd c_492 ((w_best ho hK5 (t := i9) (by omega)).2.2 (Int32.not_le.mp c_482))
                          · skip
                            refine lv_iconst (v := 1) hx hb dL_areSheets_495 (by decide) ?_
                            refine lv_goto (tgt := 500) hx hb dL_areSheets_496 (by decide) ?_
                            refine lv_istore_n (lv' := [(3, .int 1), (2, .int ((q_acc 0 (s_fin (v_now V)) i9) + (s_fin (v_now V) i9))), (8, .int (nI 8)), (7, .int (q_or (tldS (v_now V) i9) 8)), (6, .int (q_or (hasS (v_now V) i9) 8)), (5, .int (q_acc (fineS (v_now V) i9) (ptsS (v_now V) i9) 8 + 1000)), (4, .int (nI i9)), (1, .int (nI (wroA (v_now V) i9 + q_cnt (wroS (v_now V) i9) 8))), (0, .ref (b 0))]) hx hb dL_areSheets_500 rfl hl (by decide) rfl (fun ls hl => ?_)
                            refine lv_iinc (v := nI (i9 + 1)) (lv' := [(4, .int (nI (i9 + 1))), (3, .int 1), (2, .int ((q_acc 0 (s_fin (v_now V)) i9) + (s_fin (v_now V) i9))), (8, .int (nI 8)), (7, .int (q_or (tldS (v_now V) i9) 8)), (6, .int (q_or (hasS (v_now V) i9) 8)), (5, .int (q_acc (fineS (v_now V) i9) (ptsS (v_now V) i9) 8 + 1000)), (1, .int (nI (wroA (v_now V) i9 + q_cnt (wroS (v_now V) i9) 8))), (0, .ref (b 0))]) hx hb dL_areSheets_501 hl (k := 6) rfl (nI_1 _) (by decide) rfl (fun ls hl => ?_)
                            refine lv_goto (tgt := 9) hx hb dL_areSheets_504 (by decide) ?_
                            exact ih_i9 (i9 + 1) ((q_acc 0 (s_fin (v_now V)) i9) + (s_fin (v_now V) i9)) (nI (wroA (v_now V) i9 + q_cnt (wroS (v_now V) i9) 8)) (rfl) (rfl) lt_i9 (by omega) ls (lv_sub hl [0, 1, 2, 7, 8] rfl)
              · skip
                have lt_i52 : i52 < 8 := q_ge_F (by omega) hi_i52 c_56
                refine lv_iload_n hx hb dL_areSheets_59 rfl (lv_at hl 5 rfl) ?_
                refine lv_if_eq (tgt := 414) hx hb dL_areSheets_60 (by decide) (fun c_60 => ?_) (fun c_60 => ?_)
                · skip
                  exact absurd c_60 (by decide)
                · skip
                  refine lv_aload_n hx hb dL_areSheets_63 rfl (lv_at hl 8 rfl) ?_
                  refine lv_iload hx hb dL_areSheets_64 (lv_at hl 4 rfl) ?_
                  refine lv_iload hx hb dL_areSheets_66 (lv_at hl 0 rfl) ?_
                  refine lv_iconst (v := 4) hx hb dL_areSheets_68 (by decide) ?_
                  refine q_V (As := [.int (nI i9), .int (nI i52), .int 4]) (rest := []) ⟨hx, hb, hml, hown, hts⟩ (c_X4_sheet l g a b V (nI i9) (nI i52) 4 (by omega)) (cwV 3 hts gL_areSheets_X4_sheet rfl rfl rfl (by decide +kernel) ⟨Nat.le_of_ble_eq_true rfl, Nat.le_of_ble_eq_true rfl⟩) q_B_blind (va_recv hK hP (ci := 3) (q0 := 0) rfl rfl) (q_B_of hP hK hN) rfl hl.1 rfl (Nat.le_of_ble_eq_true rfl) dL_areSheets_69 (Nat.zero_le _) (Nat.zero_le _) ?_
                  refine q_reI (show (sheR V (nI i9) (nI i52) 4 : Int32) = w_an (v_now V) i9 i52 from w_anV hn10 lt_i9 lt_i52) ?_
                  refine lv_istore (lv' := [(9, .int (w_an (v_now V) i9 i52)), (8, .int (nI i52)), (7, .int (q_or (tldS (v_now V) i9) i52)), (6, .int (q_or (hasS (v_now V) i9) i52)), (5, .int (q_acc (fineS (v_now V) i9) (ptsS (v_now V) i9) i52 + 1000)), (4, .int (nI i9)), (3, .int 1), (2, .int (q_acc 0 (s_fin (v_now V)) i9)), (1, .int (nI (wroA (v_now V) i9 + q_cnt (wroS (v_now V) i9) i52))), (0, .ref (b 0))]) hx hb dL_areSheets_72 hl (by decide) rfl (fun ls hl => ?_)
                  refine lv_aload_n hx hb dL_areSheets_74 rfl (lv_at hl 9 rfl) ?_
                  refine lv_iload hx hb dL_areSheets_75 (lv_at hl 5 rfl) ?_
                  refine lv_iload hx hb dL_areSheets_77 (lv_at hl 1 rfl) ?_
                  refine lv_iconst (v := 0) hx hb dL_areSheets_79 (by decide) ?_
                  refine q_V (As := [.int (nI i9), .int (nI i52), .int 0]) (rest := []) ⟨hx, hb, hml, hown, hts⟩ (c_X4_sheet l g a b V (nI i9) (nI i52) 0 (by omega)) (cwV 3 hts gL_areSheets_X4_sheet rfl rfl rfl (by decide +kernel) ⟨Nat.le_of_ble_eq_true rfl, Nat.le_of_ble_eq_true rfl⟩) q_B_blind (va_recv hK hP (ci := 3) (q0 := 0) rfl rfl) (q_B_of hP hK hN) rfl hl.1 rfl (Nat.le_of_ble_eq_true rfl) dL_areSheets_80 (Nat.zero_le _) (Nat.zero_le _) ?_
                  refine q_reI (show (sheR V (nI i9) (nI i52) 0 : Int32) = w_mk (v_now V) i9 i52 from w_mkV hn10 lt_i9 lt_i52) ?_
                  refine lv_istore (lv' := [(10, .int (w_mk (v_now V) i9 i52)), (9, .int (w_an (v_now V) i9 i52)), (8, .int (nI i52)), (7, .int (q_or (tldS (v_now V) i9) i52)), (6, .int (q_or (hasS (v_now V) i9) i52)), (5, .int (q_acc (fineS (v_now V) i9) (ptsS (v_now V) i9) i52 + 1000)), (4, .int (nI i9)), (3, .int 1), (2, .int (q_acc 0 (s_fin (v_now V)) i9)), (1, .int (nI (wroA (v_now V) i9 + q_cnt (wroS (v_now V) i9) i52))), (0, .ref (b 0))]) hx hb dL_areSheets_83 hl (by decide) rfl (fun ls hl => ?_)
                  refine lv_aload_n hx hb dL_areSheets_85 rfl (lv_at hl 10 rfl) ?_
                  refine lv_iload hx hb dL_areSheets_86 (lv_at hl 6 rfl) ?_
                  refine lv_iload hx hb dL_areSheets_88 (lv_at hl 2 rfl) ?_
                  refine lv_iconst (v := 3) hx hb dL_areSheets_90 (by decide) ?_
                  refine q_V (As := [.int (nI i9), .int (nI i52), .int 3]) (rest := []) ⟨hx, hb, hml, hown, hts⟩ (c_X4_sheet l g a b V (nI i9) (nI i52) 3 (by omega)) (cwV 3 hts gL_areSheets_X4_sheet rfl rfl rfl (by decide +kernel) ⟨Nat.le_of_ble_eq_true rfl, Nat.le_of_ble_eq_true rfl⟩) q_B_blind (va_recv hK hP (ci := 3) (q0 := 0) rfl rfl) (q_B_of hP hK hN) rfl hl.1 rfl (Nat.le_of_ble_eq_true rfl) dL_areSheets_91 (Nat.zero_le _) (Nat.zero_le _) ?_
                  refine q_reI (show (sheR V (nI i9) (nI i52) 3 : Int32) = w_tr (v_now V) i9 i52 from w_trV hn10 lt_i9 lt_i52) ?_
                  refine lv_istore (lv' := [(11, .int (w_tr (v_now V) i9 i52)), (10, .int (w_mk (v_now V) i9 i52)), (9, .int (w_an (v_now V) i9 i52)), (8, .int (nI i52)), (7, .int (q_or (tldS (v_now V) i9) i52)), (6, .int (q_or (hasS (v_now V) i9) i52)), (5, .int (q_acc (fineS (v_now V) i9) (ptsS (v_now V) i9) i52 + 1000)), (4, .int (nI i9)), (3, .int 1), (2, .int (q_acc 0 (s_fin (v_now V)) i9)), (1, .int (nI (wroA (v_now V) i9 + q_cnt (wroS (v_now V) i9) i52))), (0, .ref (b 0))]) hx hb dL_areSheets_94 hl (by decide) rfl (fun ls hl => ?_)
                  refine lv_iload hx hb dL_areSheets_96 (lv_at hl 2 rfl) ?_
                  have J_117 : W p l e { frames := 7, cells := 0, slots := 0, locals := 163 } s m args below meth c s.heap [] 0 0 (MQ below (k2_QcV (.int (bI true))) args s 0 0 (fun _ => False)) (F0 m 117 ls [.int (ptsS (v_now V) i9 i52)]) := by
                    refine lv_istore (lv' := [(12, .int (ptsS (v_now V) i9 i52)), (11, .int (w_tr (v_now V) i9 i52)), (10, .int (w_mk (v_now V) i9 i52)), (9, .int (w_an (v_now V) i9 i52)), (8, .int (nI i52)), (7, .int (q_or (tldS (v_now V) i9) i52)), (6, .int (q_or (hasS (v_now V) i9) i52)), (5, .int (q_acc (fineS (v_now V) i9) (ptsS (v_now V) i9) i52 + 1000)), (4, .int (nI i9)), (3, .int 1), (2, .int (q_acc 0 (s_fin (v_now V)) i9)), (1, .int (nI (wroA (v_now V) i9 + q_cnt (wroS (v_now V) i9) i52))), (0, .ref (b 0))]) hx hb dL_areSheets_117 hl (by decide) rfl (fun ls hl => ?_)
                    refine lv_aload_n hx hb dL_areSheets_119 rfl (lv_at hl 12 rfl) ?_
                    refine lv_iload hx hb dL_areSheets_120 (lv_at hl 4 rfl) ?_
                    refine lv_iconst (v := 3) hx hb dL_areSheets_122 (by decide) ?_
                    refine q_V (As := [.int (nI i52), .int 3]) (rest := []) ⟨hx, hb, hml, hown, hts⟩ (c_X4_ofRound l g a b V (nI i52) 3 (by omega)) (cwV 2 hts gL_areSheets_X4_ofRound rfl rfl rfl (by decide +kernel) ⟨Nat.le_of_ble_eq_true rfl, Nat.le_of_ble_eq_true rfl⟩) q_B_blind (va_recv hK hP (ci := 3) (q0 := 0) rfl rfl) (q_B_of hP hK hN) rfl hl.1 rfl (Nat.le_of_ble_eq_true rfl) dL_areSheets_123 (Nat.zero_le _) (Nat.zero_le _) ?_
                    refine lv_iload hx hb dL_areSheets_126 (lv_at hl 8 rfl) ?_
                    refine lv_ishr hx hb dL_areSheets_128 ?_
                    refine lv_iconst (v := 1) hx hb dL_areSheets_129 (by decide) ?_
                    refine lv_iand hx hb dL_areSheets_130 ?_
                    refine q_reI (show ((((ofrR V (nI i52) 3) >>> ((nI i9) &&& 31)) &&& 1) : Int32) = bI (tldS (v_now V) i9 i52) from w_tb hn10 lt_i9 lt_i52) ?_
                    refine lv_iconst (v := 1) hx hb dL_areSheets_131 (by decide) ?_
                    have J_140 : W p l e { frames := 7, cells := 0, slots := 0, locals := 163 } s m args below meth c s.heap [] 0 0 (MQ below (k2_QcV (.int (bI true))) args s 0 0 (fun _ => False)) (F0 m 140 ls [.int (bI (tldS (v_now V) i9 i52))]) := by
                      refine lv_istore (lv' := [(13, .int (bI (tldS (v_now V) i9 i52))), (12, .int (ptsS (v_now V) i9 i52)), (11, .int (w_tr (v_now V) i9 i52)), (10, .int (w_mk (v_now V) i9 i52)), (9, .int (w_an (v_now V) i9 i52)), (8, .int (nI i52)), (7, .int (q_or (tldS (v_now V) i9) i52)), (6, .int (q_or (hasS (v_now V) i9) i52)), (5, .int (q_acc (fineS (v_now V) i9) (ptsS (v_now V) i9) i52 + 1000)), (4, .int (nI i9)), (3, .int 1), (2, .int (q_acc 0 (s_fin (v_now V)) i9)), (1, .int (nI (wroA (v_now V) i9 + q_cnt (wroS (v_now V) i9) i52))), (0, .ref (b 0))]) hx hb dL_areSheets_140 hl (by decide) rfl (fun ls hl => ?_)
                      refine lv_aload_n hx hb dL_areSheets_142 rfl (lv_at hl 13 rfl) ?_
                      refine lv_iload hx hb dL_areSheets_143 (lv_at hl 5 rfl) ?_
                      refine lv_iconst (v := 4) hx hb dL_areSheets_145 (by decide) ?_
                      refine q_V (As := [.int (nI i52), .int 4]) (rest := []) ⟨hx, hb, hml, hown, hts⟩ (c_X4_ofRound l g a b V (nI i52) 4 (by omega)) (cwV 2 hts gL_areSheets_X4_ofRound rfl rfl rfl (by decide +kernel) ⟨Nat.le_of_ble_eq_true rfl, Nat.le_of_ble_eq_true rfl⟩) q_B_blind (va_recv hK hP (ci := 3) (q0 := 0) rfl rfl) (q_B_of hP hK hN) rfl hl.1 rfl (Nat.le_of_ble_eq_true rfl) dL_areSheets_146 (Nat.zero_le _) (Nat.zero_le _) ?_
                      refine lv_iload hx hb dL_areSheets_149 (lv_at hl 9 rfl) ?_
                      refine lv_ishr hx hb dL_areSheets_151 ?_
                      refine lv_iconst (v := 1) hx hb dL_areSheets_152 (by decide) ?_
                      refine lv_iand hx hb dL_areSheets_153 ?_
                      refine q_reI (show ((((ofrR V (nI i52) 4) >>> ((nI i9) &&& 31)) &&& 1) : Int32) = bI (lokS (v_now V) i9 i52) from w_lb ho lt_i9 lt_i52) ?_
                      refine lv_iconst (v := 1) hx hb dL_areSheets_154 (by decide) ?_
                      have J_163 : W p l e { frames := 7, cells := 0, slots := 0, locals := 163 } s m args below meth c s.heap [] 0 0 (MQ below (k2_QcV (.int (bI true))) args s 0 0 (fun _ => False)) (F0 m 163 ls [.int (bI (lokS (v_now V) i9 i52))]) := by
                        refine lv_istore (lv' := [(14, .int (bI (lokS (v_now V) i9 i52))), (13, .int (bI (tldS (v_now V) i9 i52))), (12, .int (ptsS (v_now V) i9 i52)), (11, .int (w_tr (v_now V) i9 i52)), (10, .int (w_mk (v_now V) i9 i52)), (9, .int (w_an (v_now V) i9 i52)), (8, .int (nI i52)), (7, .int (q_or (tldS (v_now V) i9) i52)), (6, .int (q_or (hasS (v_now V) i9) i52)), (5, .int (q_acc (fineS (v_now V) i9) (ptsS (v_now V) i9) i52 + 1000)), (4, .int (nI i9)), (3, .int 1), (2, .int (q_acc 0 (s_fin (v_now V)) i9)), (1, .int (nI (wroA (v_now V) i9 + q_cnt (wroS (v_now V) i9) i52))), (0, .ref (b 0))]) hx hb dL_areSheets_163 hl (by decide) rfl (fun ls hl => ?_)
                        refine lv_aload_n hx hb dL_areSheets_165 rfl (lv_at hl 14 rfl) ?_
                        refine lv_iload hx hb dL_areSheets_166 (lv_at hl 10 rfl) ?_
                        refine lv_iconst (v := 3) hx hb dL_areSheets_168 (by decide) ?_
                        refine q_V (As := [.int (nI i9), .int 3]) (rest := []) ⟨hx, hb, hml, hown, hts⟩ (c_X4_ofTeam l g a b V (nI i9) 3 (by omega)) (cwV 2 hts gL_areSheets_X4_ofTeam rfl rfl rfl (by decide +kernel) ⟨Nat.le_of_ble_eq_true rfl, Nat.le_of_ble_eq_true rfl⟩) q_B_blind (va_recv hK hP (ci := 3) (q0 := 0) rfl rfl) (q_B_of hP hK hN) rfl hl.1 rfl (Nat.le_of_ble_eq_true rfl) dL_areSheets_169 (Nat.zero_le _) (Nat.zero_le _) ?_
                        refine q_reI (show (oftR V (nI i9) 3 : Int32) = s_jok (v_now V) i9 from w_o3 hn10 lt_i9) ?_
                        refine lv_iload hx hb dL_areSheets_172 (lv_at hl 6 rfl) ?_
                        have J_182 : W p l e { frames := 7, cells := 0, slots := 0, locals := 163 } s m args below meth c s.heap [] 0 0 (MQ below (k2_QcV (.int (bI true))) args s 0 0 (fun _ => False)) (F0 m 182 ls [.int (w_ti (v_now V) i9 i52)]) := by
                          refine lv_istore (lv' := [(15, .int (w_ti (v_now V) i9 i52)), (14, .int (bI (lokS (v_now V) i9 i52))), (13, .int (bI (tldS (v_now V) i9 i52))), (12, .int (ptsS (v_now V) i9 i52)), (11, .int (w_tr (v_now V) i9 i52)), (10, .int (w_mk (v_now V) i9 i52)), (9, .int (w_an (v_now V) i9 i52)), (8, .int (nI i52)), (7, .int (q_or (tldS (v_now V) i9) i52)), (6, .int (q_or (hasS (v_now V) i9) i52)), (5, .int (q_acc (fineS (v_now V) i9) (ptsS (v_now V) i9) i52 + 1000)), (4, .int (nI i9)), (3, .int 1), (2, .int (q_acc 0 (s_fin (v_now V)) i9)), (1, .int (nI (wroA (v_now V) i9 + q_cnt (wroS (v_now V) i9) i52))), (0, .ref (b 0))]) hx hb dL_areSheets_182 hl (by decide) rfl (fun ls hl => ?_)
                          refine lv_iload hx hb dL_areSheets_184 (lv_at hl 9 rfl) ?_
                          refine lv_iload hx hb dL_areSheets_186 (lv_at hl 6 rfl) ?_
                          have J_199 : W p l e { frames := 7, cells := 0, slots := 0, locals := 163 } s m args below meth c s.heap [] 0 0 (MQ below (k2_QcV (.int (bI true))) args s 0 0 (fun _ => False)) (F0 m 199 ls [.int (if hasS (v_now V) i9 i52 = true then (1 : Int32) <<< (nI i52 &&& 31) else 0), .int (q_or (hasS (v_now V) i9) i52)]) := by
                            refine lv_ior hx hb dL_areSheets_199 ?_
                            refine lv_istore (lv' := [(6, .int ((q_or (hasS (v_now V) i9) i52) ||| (if hasS (v_now V) i9 i52 = true then (1 : Int32) <<< (nI i52 &&& 31) else 0))), (15, .int (w_ti (v_now V) i9 i52)), (14, .int (bI (lokS (v_now V) i9 i52))), (13, .int (bI (tldS (v_now V) i9 i52))), (12, .int (ptsS (v_now V) i9 i52)), (11, .int (w_tr (v_now V) i9 i52)), (10, .int (w_mk (v_now V) i9 i52)), (9, .int (w_an (v_now V) i9 i52)), (8, .int (nI i52)), (7, .int (q_or (tldS (v_now V) i9) i52)), (5, .int (q_acc (fineS (v_now V) i9) (ptsS (v_now V) i9) i52 + 1000)), (4, .int (nI i9)), (3, .int 1), (2, .int (q_acc 0 (s_fin (v_now V)) i9)), (1, .int (nI (wroA (v_now V) i9 + q_cnt (wroS (v_now V) i9) i52))), (0, .ref (b 0))]) hx hb dL_areSheets_200 hl (by decide) rfl (fun ls hl => ?_)
                            refine lv_iload hx hb dL_areSheets_202 (lv_at hl 9 rfl) ?_
                            refine lv_iload hx hb dL_areSheets_204 (lv_at hl 3 rfl) ?_
                            have J_217 : W p l e { frames := 7, cells := 0, slots := 0, locals := 163 } s m args below meth c s.heap [] 0 0 (MQ below (k2_QcV (.int (bI true))) args s 0 0 (fun _ => False)) (F0 m 217 ls [.int (if tldS (v_now V) i9 i52 = true then (1 : Int32) <<< (nI i52 &&& 31) else 0), .int (q_or (tldS (v_now V) i9) i52)]) := by
                              refine lv_ior hx hb dL_areSheets_217 ?_
                              refine lv_istore (lv' := [(7, .int ((q_or (tldS (v_now V) i9) i52) ||| (if tldS (v_now V) i9 i52 = true then (1 : Int32) <<< (nI i52 &&& 31) else 0))), (6, .int ((q_or (hasS (v_now V) i9) i52) ||| (if hasS (v_now V) i9 i52 = true then (1 : Int32) <<< (nI i52 &&& 31) else 0))), (15, .int (w_ti (v_now V) i9 i52)), (14, .int (bI (lokS (v_now V) i9 i52))), (13, .int (bI (tldS (v_now V) i9 i52))), (12, .int (ptsS (v_now V) i9 i52)), (11, .int (w_tr (v_now V) i9 i52)), (10, .int (w_mk (v_now V) i9 i52)), (9, .int (w_an (v_now V) i9 i52)), (8, .int (nI i52)), (5, .int (q_acc (fineS (v_now V) i9) (ptsS (v_now V) i9) i52 + 1000)), (4, .int (nI i9)), (3, .int 1), (2, .int (q_acc 0 (s_fin (v_now V)) i9)), (1, .int (nI (wroA (v_now V) i9 + q_cnt (wroS (v_now V) i9) i52))), (0, .ref (b 0))]) hx hb dL_areSheets_218 hl (by decide) rfl (fun ls hl => ?_)
                              refine lv_iload hx hb dL_areSheets_220 (lv_at hl 10 rfl) ?_
                              refine lv_iload hx hb dL_areSheets_222 (lv_at hl 5 rfl) ?_
                              refine lv_iadd hx hb dL_areSheets_224 ?_
                              refine lv_istore (lv' := [(5, .int ((q_acc (fineS (v_now V) i9) (ptsS (v_now V) i9) i52 + 1000) + (ptsS (v_now V) i9 i52))), (7, .int ((q_or (tldS (v_now V) i9) i52) ||| (if tldS (v_now V) i9 i52 = true then (1 : Int32) <<< (nI i52 &&& 31) else 0))), (6, .int ((q_or (hasS (v_now V) i9) i52) ||| (if hasS (v_now V) i9 i52 = true then (1 : Int32) <<< (nI i52 &&& 31) else 0))), (15, .int (w_ti (v_now V) i9 i52)), (14, .int (bI (lokS (v_now V) i9 i52))), (13, .int (bI (tldS (v_now V) i9 i52))), (12, .int (ptsS (v_now V) i9 i52)), (11, .int (w_tr (v_now V) i9 i52)), (10, .int (w_mk (v_now V) i9 i52)), (9, .int (w_an (v_now V) i9 i52)), (8, .int (nI i52)), (4, .int (nI i9)), (3, .int 1), (2, .int (q_acc 0 (s_fin (v_now V)) i9)), (1, .int (nI (wroA (v_now V) i9 + q_cnt (wroS (v_now V) i9) i52))), (0, .ref (b 0))]) hx hb dL_areSheets_225 hl (by decide) rfl (fun ls hl => ?_)
                              refine lv_iload_n hx hb dL_areSheets_227 rfl (lv_at hl 14 rfl) ?_
                              refine lv_iload hx hb dL_areSheets_228 (lv_at hl 5 rfl) ?_
                              have J_250 : W p l e { frames := 7, cells := 0, slots := 0, locals := 163 } s m args below meth c s.heap [] 0 0 (MQ below (k2_QcV (.int (bI true))) args s 0 0 (fun _ => False)) (F0 m 250 ls [.int (if wroS (v_now V) i9 i52 = true then (1 : Int32) else 0), .int (nI (wroA (v_now V) i9 + q_cnt (wroS (v_now V) i9) i52))]) := by
                                refine lv_iadd hx hb dL_areSheets_250 ?_
                                refine lv_istore_n (lv' := [(1, .int ((nI (wroA (v_now V) i9 + q_cnt (wroS (v_now V) i9) i52)) + (if wroS (v_now V) i9 i52 = true then (1 : Int32) else 0))), (5, .int ((q_acc (fineS (v_now V) i9) (ptsS (v_now V) i9) i52 + 1000) + (ptsS (v_now V) i9 i52))), (7, .int ((q_or (tldS (v_now V) i9) i52) ||| (if tldS (v_now V) i9 i52 = true then (1 : Int32) <<< (nI i52 &&& 31) else 0))), (6, .int ((q_or (hasS (v_now V) i9) i52) ||| (if hasS (v_now V) i9 i52 = true then (1 : Int32) <<< (nI i52 &&& 31) else 0))), (15, .int (w_ti (v_now V) i9 i52)), (14, .int (bI (lokS (v_now V) i9 i52))), (13, .int (bI (tldS (v_now V) i9 i52))), (12, .int (ptsS (v_now V) i9 i52)), (11, .int (w_tr (v_now V) i9 i52)), (10, .int (w_mk (v_now V) i9 i52)), (9, .int (w_an (v_now V) i9 i52)), (8, .int (nI i52)), (4, .int (nI i9)), (3, .int 1), (2, .int (q_acc 0 (s_fin (v_now V)) i9)), (0, .ref (b 0))]) hx hb dL_areSheets_251 rfl hl (by decide) rfl (fun ls hl => ?_)
                                refine lv_iload hx hb dL_areSheets_252 (lv_at hl 10 rfl) ?_
                                have J_262 : W p l e { frames := 7, cells := 0, slots := 0, locals := 163 } s m args below meth c s.heap [] 0 0 (MQ below (k2_QcV (.int (bI true))) args s 0 0 (fun _ => False)) (F0 m 262 ls [.int (bI (hasS (v_now V) i9 i52))]) := by
                                  refine lv_aload_n hx hb dL_areSheets_262 rfl (lv_at hl 15 rfl) ?_
                                  refine lv_iload hx hb dL_areSheets_263 (lv_at hl 11 rfl) ?_
                                  refine lv_iconst (v := 1) hx hb dL_areSheets_265 (by decide) ?_
                                  refine q_V (As := [.int (nI i52), .int 1]) (rest := [.int (bI (hasS (v_now V) i9 i52))]) ⟨hx, hb, hml, hown, hts⟩ (c_X4_ofRound l g a b V (nI i52) 1 (by omega)) (cwV 2 hts gL_areSheets_X4_ofRound rfl rfl rfl (by decide +kernel) ⟨Nat.le_of_ble_eq_true rfl, Nat.le_of_ble_eq_true rfl⟩) q_B_blind (va_recv hK hP (ci := 3) (q0 := 0) rfl rfl) (q_B_of hP hK hN) rfl hl.1 rfl (Nat.le_of_ble_eq_true rfl) dL_areSheets_266 (Nat.zero_le _) (Nat.zero_le _) ?_
                                  refine lv_iload hx hb dL_areSheets_269 (lv_at hl 12 rfl) ?_
                                  refine lv_ishr hx hb dL_areSheets_271 ?_
                                  refine lv_iconst (v := 1) hx hb dL_areSheets_272 (by decide) ?_
                                  refine lv_iand hx hb dL_areSheets_273 ?_
                                  refine q_reI (show ((((ofrR V (nI i52) 1) >>> ((nI i9) &&& 31)) &&& 1) : Int32) = bI (hasS (v_now V) i9 i52) from w_hb hn10 lt_i9 lt_i52) ?_
                                  refine lv_iconst (v := 1) hx hb dL_areSheets_274 (by decide) ?_
                                  have J_283 : W p l e { frames := 7, cells := 0, slots := 0, locals := 163 } s m args below meth c s.heap [] 0 0 (MQ below (k2_QcV (.int (bI true))) args s 0 0 (fun _ => False)) (F0 m 283 ls [.int (bI (hasS (v_now V) i9 i52)), .int (bI (hasS (v_now V) i9 i52))]) := by
                                    refine lv_icmp_ne (tgt := 406) hx hb dL_areSheets_283 (by decide) (fun c_283 => ?_) (fun c_283 => ?_)
                                    · skip
                                      exact absurd rfl c_283
                                    · skip
                                      refine lv_iload hx hb dL_areSheets_286 (lv_at hl 10 rfl) ?_
                                      have J_342 : W p l e { frames := 7, cells := 0, slots := 0, locals := 163 } s m args below meth c s.heap [] 0 0 (MQ below (k2_QcV (.int (bI true))) args s 0 0 (fun _ => False)) (F0 m 342 ls []) := by
                                        refine lv_iload hx hb dL_areSheets_342 (lv_at hl 6 rfl) ?_
                                        have J_357 : W p l e { frames := 7, cells := 0, slots := 0, locals := 163 } s m args below meth c s.heap [] 0 0 (MQ below (k2_QcV (.int (bI true))) args s 0 0 (fun _ => False)) (F0 m 357 ls []) := by
                                          refine lv_iload hx hb dL_areSheets_357 (lv_at hl 5 rfl) ?_
                                          have J_367 : W p l e { frames := 7, cells := 0, slots := 0, locals := 163 } s m args below meth c s.heap [] 0 0 (MQ below (k2_QcV (.int (bI true))) args s 0 0 (fun _ => False)) (F0 m 367 ls []) := by
                                            refine lv_iload hx hb dL_areSheets_367 (lv_at hl 4 rfl) ?_
                                            refine lv_iconst (v := 2) hx hb dL_areSheets_369 (by decide) ?_
                                            have J_378 : W p l e { frames := 7, cells := 0, slots := 0, locals := 163 } s m args below meth c s.heap [] 0 0 (MQ below (k2_QcV (.int (bI true))) args s 0 0 (fun _ => False)) (F0 m 378 ls [.int (bI (decide (s_jok (v_now V) i9 = nI i52)))]) := by
                                              refine lv_aload_n hx hb dL_areSheets_378 rfl (lv_at hl 15 rfl) ?_
                                              refine lv_iload hx hb dL_areSheets_379 (lv_at hl 11 rfl) ?_
                                              refine lv_iconst (v := 2) hx hb dL_areSheets_381 (by decide) ?_
                                              refine q_V (As := [.int (nI i52), .int 2]) (rest := [.int (bI (decide (s_jok (v_now V) i9 = nI i52)))]) ⟨hx, hb, hml, hown, hts⟩ (c_X4_ofRound l g a b V (nI i52) 2 (by omega)) (cwV 2 hts gL_areSheets_X4_ofRound rfl rfl rfl (by decide +kernel) ⟨Nat.le_of_ble_eq_true rfl, Nat.le_of_ble_eq_true rfl⟩) q_B_blind (va_recv hK hP (ci := 3) (q0 := 0) rfl rfl) (q_B_of hP hK hN) rfl hl.1 rfl (Nat.le_of_ble_eq_true rfl) dL_areSheets_382 (Nat.zero_le _) (Nat.zero_le _) ?_
                                              refine lv_iload hx hb dL_areSheets_385 (lv_at hl 12 rfl) ?_
                                              refine lv_ishr hx hb dL_areSheets_387 ?_
                                              refine lv_iconst (v := 1) hx hb dL_areSheets_388 (by decide) ?_
                                              refine lv_iand hx hb dL_areSheets_389 ?_
                                              refine q_reI (show ((((ofrR V (nI i52) 2) >>> ((nI i9) &&& 31)) &&& 1) : Int32) = bI (decide (s_jok (v_now V) i9 = nI i52)) from w_jb hn10 lt_i9 lt_i52) ?_
                                              refine lv_iconst (v := 1) hx hb dL_areSheets_390 (by decide) ?_
                                              have J_399 : W p l e { frames := 7, cells := 0, slots := 0, locals := 163 } s m args below meth c s.heap [] 0 0 (MQ below (k2_QcV (.int (bI true))) args s 0 0 (fun _ => False)) (F0 m 399 ls [.int (bI (decide (s_jok (v_now V) i9 = nI i52))), .int (bI (decide (s_jok (v_now V) i9 = nI i52)))]) := by
                                                refine lv_icmp_ne (tgt := 406) hx hb dL_areSheets_399 (by decide) (fun c_399 => ?_) (fun c_399 => ?_)
                                                · skip
                                                  exact absurd rfl c_399
                                                · skip
                                                  refine lv_iconst (v := 1) hx hb dL_areSheets_402 (by decide) ?_
                                                  refine lv_goto (tgt := 407) hx hb dL_areSheets_403 (by decide) ?_
                                                  refine lv_istore_n (lv' := [(3, .int 1), (1, .int ((nI (wroA (v_now V) i9 + q_cnt (wroS (v_now V) i9) i52)) + (if wroS (v_now V) i9 i52 = true then (1 : Int32) else 0))), (5, .int ((q_acc (fineS (v_now V) i9) (ptsS (v_now V) i9) i52 + 1000) + (ptsS (v_now V) i9 i52))), (7, .int ((q_or (tldS (v_now V) i9) i52) ||| (if tldS (v_now V) i9 i52 = true then (1 : Int32) <<< (nI i52 &&& 31) else 0))), (6, .int ((q_or (hasS (v_now V) i9) i52) ||| (if hasS (v_now V) i9 i52 = true then (1 : Int32) <<< (nI i52 &&& 31) else 0))), (15, .int (w_ti (v_now V) i9 i52)), (14, .int (bI (lokS (v_now V) i9 i52))), (13, .int (bI (tldS (v_now V) i9 i52))), (12, .int (ptsS (v_now V) i9 i52)), (11, .int (w_tr (v_now V) i9 i52)), (10, .int (w_mk (v_now V) i9 i52)), (9, .int (w_an (v_now V) i9 i52)), (8, .int (nI i52)), (4, .int (nI i9)), (2, .int (q_acc 0 (s_fin (v_now V)) i9)), (0, .ref (b 0))]) hx hb dL_areSheets_407 rfl hl (by decide) rfl (fun ls hl => ?_)
                                                  refine lv_iinc (v := nI (i52 + 1)) (lv' := [(8, .int (nI (i52 + 1))), (3, .int 1), (1, .int ((nI (wroA (v_now V) i9 + q_cnt (wroS (v_now V) i9) i52)) + (if wroS (v_now V) i9 i52 = true then (1 : Int32) else 0))), (5, .int ((q_acc (fineS (v_now V) i9) (ptsS (v_now V) i9) i52 + 1000) + (ptsS (v_now V) i9 i52))), (7, .int ((q_or (tldS (v_now V) i9) i52) ||| (if tldS (v_now V) i9 i52 = true then (1 : Int32) <<< (nI i52 &&& 31) else 0))), (6, .int ((q_or (hasS (v_now V) i9) i52) ||| (if hasS (v_now V) i9 i52 = true then (1 : Int32) <<< (nI i52 &&& 31) else 0))), (15, .int (w_ti (v_now V) i9 i52)), (14, .int (bI (lokS (v_now V) i9 i52))), (13, .int (bI (tldS (v_now V) i9 i52))), (12, .int (ptsS (v_now V) i9 i52)), (11, .int (w_tr (v_now V) i9 i52)), (10, .int (w_mk (v_now V) i9 i52)), (9, .int (w_an (v_now V) i9 i52)), (4, .int (nI i9)), (2, .int (q_acc 0 (s_fin (v_now V)) i9)), (0, .ref (b 0))]) hx hb dL_areSheets_408 hl (k := 12) rfl (nI_1 _) (by decide) rfl (fun ls hl => ?_)
                                                  refine lv_goto (tgt := 52) hx hb dL_areSheets_411 (by decide) ?_
                                                  exact ih_i52 (i52 + 1) ((q_or (tldS (v_now V) i9) i52) ||| (if tldS (v_now V) i9 i52 = true then (1 : Int32) <<< (nI i52 &&& 31) else 0)) ((q_or (hasS (v_now V) i9) i52) ||| (if hasS (v_now V) i9 i52 = true then (1 : Int32) <<< (nI i52 &&& 31) else 0)) ((q_acc (fineS (v_now V) i9) (ptsS (v_now V) i9) i52 + 1000) + (ptsS (v_now V) i9 i52)) ((nI (wroA (v_now V) i9 + q_cnt (wroS (v_now V) i9) i52)) + (if wroS (v_now V) i9 i52 = true then (1 : Int32) else 0)) (rfl) (rfl) (w_sc1 _ _) (w_wr _ _ _) lt_i52 (by omega) ls (lv_sub hl [0, 4, 5, 3, 13, 1, 14, 2, 15] rfl)
                                              refine lv_icmp_ne (tgt := 398) hx hb dL_areSheets_391 (by decide) (fun c_391 => ?_) (fun c_391 => ?_)
                                              · skip
                                                have c_391 : (decide (s_jok (v_now V) i9 = nI i52)) = false := bI_n1 c_391
                                                refine lv_iconst (v := 0) hx hb dL_areSheets_398 (by decide) ?_
                                                refine q_reI (show (0 : Int32) = bI (decide (s_jok (v_now V) i9 = nI i52)) from by rw [c_391]; rfl) J_399
                                              · skip
                                                have c_391 : (decide (s_jok (v_now V) i9 = nI i52)) = true := bI_e1 c_391
                                                refine lv_iconst (v := 1) hx hb dL_areSheets_394 (by decide) ?_
                                                refine lv_goto (tgt := 399) hx hb dL_areSheets_395 (by decide) ?_
                                                refine q_reI (show (1 : Int32) = bI (decide (s_jok (v_now V) i9 = nI i52)) from by rw [c_391]; rfl) J_399
                                            refine lv_icmp_ne (tgt := 377) hx hb dL_areSheets_370 (by decide) (fun c_370 => ?_) (fun c_370 => ?_)
                                            · skip
                                              refine lv_iconst (v := 0) hx hb dL_areSheets_377 (by decide) ?_
                                              refine q_reI (show (0 : Int32) = bI (decide (s_jok (v_now V) i9 = nI i52)) from by unfold w_ti at c_370; by_cases z : s_jok (v_now V) i9 = nI i52 <;> simp [z, bI] at c_370 ⊢) J_378
                                            · skip
                                              refine lv_iconst (v := 1) hx hb dL_areSheets_373 (by decide) ?_
                                              refine lv_goto (tgt := 378) hx hb dL_areSheets_374 (by decide) ?_
                                              refine q_reI (show (1 : Int32) = bI (decide (s_jok (v_now V) i9 = nI i52)) from by unfold w_ti at c_370; by_cases z : s_jok (v_now V) i9 = nI i52 <;> simp [z, bI] at c_370 ⊢) J_378
                                          refine lv_if_eq (tgt := 367) hx hb dL_areSheets_359 (by decide) (fun c_359 => ?_) (fun c_359 => ?_)
                                          · skip
                                            have c_359 : (lokS (v_now V) i9 i52) = false := bI_eq c_359
                                            exact J_367
                                          · skip
                                            have c_359 : (lokS (v_now V) i9 i52) = true := bI_ne c_359
                                            refine lv_iload hx hb dL_areSheets_362 (lv_at hl 6 rfl) ?_
                                            refine lv_if_eq (tgt := 406) hx hb dL_areSheets_364 (by decide) (fun c_364 => ?_) (fun c_364 => ?_)
                                            · skip
                                              have c_364 : (tldS (v_now V) i9 i52) = false := bI_eq c_364
                                              exact absurd (c_364.symm.trans (ok_lt ho (t := i9) (r := i52) (by omega) lt_i52 c_359)) (by decide)
                                            · skip
                                              have c_364 : (tldS (v_now V) i9 i52) = true := bI_ne c_364
                                              exact J_367
                                        refine lv_if_eq (tgt := 357) hx hb dL_areSheets_344 (by decide) (fun c_344 => ?_) (fun c_344 => ?_)
                                        · skip
                                          have c_344 : (tldS (v_now V) i9 i52) = false := bI_eq c_344
                                          exact J_357
                                        · skip
                                          have c_344 : (tldS (v_now V) i9 i52) = true := bI_ne c_344
                                          refine lv_aload_n hx hb dL_areSheets_347 rfl (lv_at hl 15 rfl) ?_
                                          refine lv_iload hx hb dL_areSheets_348 (lv_at hl 11 rfl) ?_
                                          refine lv_iconst (v := 0) hx hb dL_areSheets_350 (by decide) ?_
                                          refine q_V (As := [.int (nI i52), .int 0]) (rest := []) ⟨hx, hb, hml, hown, hts⟩ (c_X4_ofRound l g a b V (nI i52) 0 (by omega)) (cwV 2 hts gL_areSheets_X4_ofRound rfl rfl rfl (by decide +kernel) ⟨Nat.le_of_ble_eq_true rfl, Nat.le_of_ble_eq_true rfl⟩) q_B_blind (va_recv hK hP (ci := 3) (q0 := 0) rfl rfl) (q_B_of hP hK hN) rfl hl.1 rfl (Nat.le_of_ble_eq_true rfl) dL_areSheets_351 (Nat.zero_le _) (Nat.zero_le _) ?_
                                          refine q_reI (show (ofrR V (nI i52) 0 : Int32) = bI (isOp (v_now V) i52) from w_r0 lt_i52) ?_
                                          refine lv_if_ne (tgt := 406) hx hb dL_areSheets_354 (by decide) (fun c_354 => ?_) (fun c_354 => ?_)
                                          · skip
                                            have c_354 : (isOp (v_now V) i52) = true := bI_ne c_354
                                            exact absurd ((ok_to ho (t := i9) (r := i52) (by omega) lt_i52 c_344).symm.trans c_354) (by decide)
                                          · skip
                                            have c_354 : (isOp (v_now V) i52) = false := bI_eq c_354
                                            exact J_357
                                      refine lv_if_ge (tgt := 305) hx hb dL_areSheets_288 (by decide) (fun c_288 => ?_) (fun c_288 => ?_)
                                      · skip
                                        refine lv_iload hx hb dL_areSheets_305 (lv_at hl 6 rfl) ?_
                                        refine lv_iload hx hb dL_areSheets_307 (lv_at hl 9 rfl) ?_
                                        have J_317 : W p l e { frames := 7, cells := 0, slots := 0, locals := 163 } s m args below meth c s.heap [] 0 0 (MQ below (k2_QcV (.int (bI true))) args s 0 0 (fun _ => False)) (F0 m 317 ls [.int (bI (tldS (v_now V) i9 i52)), .int (bI (tldS (v_now V) i9 i52))]) := by
                                          refine lv_icmp_ne (tgt := 406) hx hb dL_areSheets_317 (by decide) (fun c_317 => ?_) (fun c_317 => ?_)
                                          · skip
                                            exact absurd rfl c_317
                                          · skip
                                            refine lv_iload hx hb dL_areSheets_320 (lv_at hl 7 rfl) ?_
                                            refine lv_iload hx hb dL_areSheets_322 (lv_at hl 6 rfl) ?_
                                            have J_339 : W p l e { frames := 7, cells := 0, slots := 0, locals := 163 } s m args below meth c s.heap [] 0 0 (MQ below (k2_QcV (.int (bI true))) args s 0 0 (fun _ => False)) (F0 m 339 ls [.int (ptsS (v_now V) i9 i52), .int (ptsS (v_now V) i9 i52)]) := by
                                              refine lv_icmp_ne (tgt := 406) hx hb dL_areSheets_339 (by decide) (fun c_339 => ?_) (fun c_339 => ?_)
                                              · skip
                                                exact absurd rfl c_339
                                              · skip
                                                exact J_342
                                            refine lv_if_eq (tgt := 338) hx hb dL_areSheets_324 (by decide) (fun c_324 => ?_) (fun c_324 => ?_)
                                            · skip
                                              have c_324 : (tldS (v_now V) i9 i52) = false := bI_eq c_324
                                              refine lv_iconst (v := 0) hx hb dL_areSheets_338 (by decide) ?_
                                              refine q_reI (show (0 : Int32) = ptsS (v_now V) i9 i52 from by first | exact w_p0 c_324 | exact w_p1 ho (t := i9) (r := i52) (by omega) lt_i52 c_324) J_339
                                            · skip
                                              have c_324 : (tldS (v_now V) i9 i52) = true := bI_ne c_324
                                              refine lv_iload hx hb dL_areSheets_327 (lv_at hl 4 rfl) ?_
                                              refine lv_iload hx hb dL_areSheets_329 (lv_at hl 9 rfl) ?_
                                              refine lv_bipush (v := 100) hx hb dL_areSheets_331 (by decide) ?_
                                              refine lv_isub hx hb dL_areSheets_333 ?_
                                              refine lv_imul hx hb dL_areSheets_334 ?_
                                              refine lv_goto (tgt := 339) hx hb dL_areSheets_335 (by decide) ?_
                                              refine q_reI (show (((w_ti (v_now V) i9 i52) * ((w_mk (v_now V) i9 i52) - 100)) : Int32) = ptsS (v_now V) i9 i52 from by first | exact w_p0 c_324 | exact w_p1 ho (t := i9) (r := i52) (by omega) lt_i52 c_324) J_339
                                        refine lv_if_lt (tgt := 316) hx hb dL_areSheets_309 (by decide) (fun c_309 => ?_) (fun c_309 => ?_)
                                        · skip
                                          refine lv_iconst (v := 0) hx hb dL_areSheets_316 (by decide) ?_
                                          refine q_reI (show (0 : Int32) = bI (tldS (v_now V) i9 i52) from by first | (rw [(w_mk1 ho (t := i9) (r := i52) (by omega) lt_i52).1.mp c_309]; rfl) | (rw [(w_mk1 ho (t := i9) (r := i52) (by omega) lt_i52).2.mp (Int32.not_lt.mp c_309)]; rfl)) J_317
                                        · skip
                                          refine lv_iconst (v := 1) hx hb dL_areSheets_312 (by decide) ?_
                                          refine lv_goto (tgt := 317) hx hb dL_areSheets_313 (by decide) ?_
                                          refine q_reI (show (1 : Int32) = bI (tldS (v_now V) i9 i52) from by first | (rw [(w_mk1 ho (t := i9) (r := i52) (by omega) lt_i52).1.mp c_309]; rfl) | (rw [(w_mk1 ho (t := i9) (r := i52) (by omega) lt_i52).2.mp (Int32.not_lt.mp c_309)]; rfl)) J_317
                                      · skip
                                        refine lv_iload hx hb dL_areSheets_291 (lv_at hl 9 rfl) ?_
                                        refine lv_iconst (v := (-1)) hx hb dL_areSheets_293 (by decide) ?_
                                        refine lv_icmp_ne (tgt := 406) hx hb dL_areSheets_294 (by decide) (fun c_294 => ?_) (fun c_294 => ?_)
                                        · skip
                                          exact absurd (w_mkn (w_an0 c_288)) c_294
                                        · skip
                                          refine lv_iload hx hb dL_areSheets_297 (lv_at hl 6 rfl) ?_
                                          refine lv_if_ne (tgt := 406) hx hb dL_areSheets_299 (by decide) (fun c_299 => ?_) (fun c_299 => ?_)
                                          · skip
                                            have c_299 : (tldS (v_now V) i9 i52) = true := bI_ne c_299
                                            exact absurd ((ok_ntl ho (t := i9) (r := i52) (by omega) lt_i52 (w_an0 c_288)).symm.trans c_299) (by decide)
                                          · skip
                                            have c_299 : (tldS (v_now V) i9 i52) = false := bI_eq c_299
                                            refine lv_goto (tgt := 342) hx hb dL_areSheets_302 (by decide) ?_
                                            exact J_342
                                  refine lv_icmp_ne (tgt := 282) hx hb dL_areSheets_275 (by decide) (fun c_275 => ?_) (fun c_275 => ?_)
                                  · skip
                                    have c_275 : (hasS (v_now V) i9 i52) = false := bI_n1 c_275
                                    refine lv_iconst (v := 0) hx hb dL_areSheets_282 (by decide) ?_
                                    refine q_reI (show (0 : Int32) = bI (hasS (v_now V) i9 i52) from by simp [bI, c_275]) J_283
                                  · skip
                                    have c_275 : (hasS (v_now V) i9 i52) = true := bI_e1 c_275
                                    refine lv_iconst (v := 1) hx hb dL_areSheets_278 (by decide) ?_
                                    refine lv_goto (tgt := 283) hx hb dL_areSheets_279 (by decide) ?_
                                    refine q_reI (show (1 : Int32) = bI (hasS (v_now V) i9 i52) from by simp [bI, c_275]) J_283
                                refine lv_if_lt (tgt := 261) hx hb dL_areSheets_254 (by decide) (fun c_254 => ?_) (fun c_254 => ?_)
                                · skip
                                  refine lv_iconst (v := 0) hx hb dL_areSheets_261 (by decide) ?_
                                  refine q_reI (show (0 : Int32) = bI (hasS (v_now V) i9 i52) from by first | (rw [w_an0' c_254]; rfl) | (rw [w_an1' c_254]; rfl)) J_262
                                · skip
                                  refine lv_iconst (v := 1) hx hb dL_areSheets_257 (by decide) ?_
                                  refine lv_goto (tgt := 262) hx hb dL_areSheets_258 (by decide) ?_
                                  refine q_reI (show (1 : Int32) = bI (hasS (v_now V) i9 i52) from by first | (rw [w_an0' c_254]; rfl) | (rw [w_an1' c_254]; rfl)) J_262
                              refine lv_if_eq (tgt := 249) hx hb dL_areSheets_230 (by decide) (fun c_230 => ?_) (fun c_230 => ?_)
                              · skip
                                have c_230 : (tldS (v_now V) i9 i52) = false := bI_eq c_230
                                have e_w : wroS (v_now V) i9 i52 = false := w_w0 c_230
                                refine lv_iconst (v := 0) hx hb dL_areSheets_249 (by decide) ?_
                                refine q_reI (show (0 : Int32) = (if wroS (v_now V) i9 i52 = true then (1 : Int32) else 0) from by rw [e_w]; rfl) J_250
                              · skip
                                have c_230 : (tldS (v_now V) i9 i52) = true := bI_ne c_230
                                refine lv_iload hx hb dL_areSheets_233 (lv_at hl 4 rfl) ?_
                                refine lv_if_ne (tgt := 249) hx hb dL_areSheets_235 (by decide) (fun c_235 => ?_) (fun c_235 => ?_)
                                · skip
                                  have c_235 : (lokS (v_now V) i9 i52) = true := bI_ne c_235
                                  have e_w : wroS (v_now V) i9 i52 = false := w_w1 c_235
                                  refine lv_iconst (v := 0) hx hb dL_areSheets_249 (by decide) ?_
                                  refine q_reI (show (0 : Int32) = (if wroS (v_now V) i9 i52 = true then (1 : Int32) else 0) from by rw [e_w]; rfl) J_250
                                · skip
                                  have c_235 : (lokS (v_now V) i9 i52) = false := bI_eq c_235
                                  refine lv_iload hx hb dL_areSheets_238 (lv_at hl 8 rfl) ?_
                                  refine lv_iload hx hb dL_areSheets_240 (lv_at hl 7 rfl) ?_
                                  refine lv_icmp_eq (tgt := 249) hx hb dL_areSheets_242 (by decide) (fun c_242 => ?_) (fun c_242 => ?_)
                                  · skip
                                    have e_w : wroS (v_now V) i9 i52 = false := w_w2 ho (t := i9) (r := i52) (by omega) lt_i52 c_230 c_242
                                    refine lv_iconst (v := 0) hx hb dL_areSheets_249 (by decide) ?_
                                    refine q_reI (show (0 : Int32) = (if wroS (v_now V) i9 i52 = true then (1 : Int32) else 0) from by rw [e_w]; rfl) J_250
                                  · skip
                                    have e_w : wroS (v_now V) i9 i52 = true := w_w3 ho (t := i9) (r := i52) (by omega) lt_i52 c_230 c_235 c_242
                                    refine lv_iconst (v := 1) hx hb dL_areSheets_245 (by decide) ?_
                                    refine lv_goto (tgt := 250) hx hb dL_areSheets_246 (by decide) ?_
                                    refine q_reI (show (1 : Int32) = (if wroS (v_now V) i9 i52 = true then (1 : Int32) else 0) from by rw [e_w]; rfl) J_250
                            refine lv_if_eq (tgt := 216) hx hb dL_areSheets_206 (by decide) (fun c_206 => ?_) (fun c_206 => ?_)
                            · skip
                              have c_206 : (tldS (v_now V) i9 i52) = false := bI_eq c_206
                              refine lv_iconst (v := 0) hx hb dL_areSheets_216 (by decide) ?_
                              refine q_reI (show (0 : Int32) = (if tldS (v_now V) i9 i52 = true then (1 : Int32) <<< (nI i52 &&& 31) else 0) from by rw [c_206]; rfl) J_217
                            · skip
                              have c_206 : (tldS (v_now V) i9 i52) = true := bI_ne c_206
                              refine lv_iconst (v := 1) hx hb dL_areSheets_209 (by decide) ?_
                              refine lv_iload hx hb dL_areSheets_210 (lv_at hl 8 rfl) ?_
                              refine lv_ishl hx hb dL_areSheets_212 ?_
                              refine lv_goto (tgt := 217) hx hb dL_areSheets_213 (by decide) ?_
                              refine q_reI (show ((1 <<< ((nI i52) &&& 31)) : Int32) = (if tldS (v_now V) i9 i52 = true then (1 : Int32) <<< (nI i52 &&& 31) else 0) from by rw [c_206]; rfl) J_217
                          refine lv_if_lt (tgt := 198) hx hb dL_areSheets_188 (by decide) (fun c_188 => ?_) (fun c_188 => ?_)
                          · skip
                            refine lv_iconst (v := 0) hx hb dL_areSheets_198 (by decide) ?_
                            refine q_reI (show (0 : Int32) = (if hasS (v_now V) i9 i52 = true then (1 : Int32) <<< (nI i52 &&& 31) else 0) from by first | (rw [w_an0' c_188]; rfl) | (rw [w_an1' c_188]; rfl)) J_199
                          · skip
                            refine lv_iconst (v := 1) hx hb dL_areSheets_191 (by decide) ?_
                            refine lv_iload hx hb dL_areSheets_192 (lv_at hl 7 rfl) ?_
                            refine lv_ishl hx hb dL_areSheets_194 ?_
                            refine lv_goto (tgt := 199) hx hb dL_areSheets_195 (by decide) ?_
                            refine q_reI (show ((1 <<< ((nI i52) &&& 31)) : Int32) = (if hasS (v_now V) i9 i52 = true then (1 : Int32) <<< (nI i52 &&& 31) else 0) from by first | (rw [w_an0' c_188]; rfl) | (rw [w_an1' c_188]; rfl)) J_199
                        refine lv_icmp_ne (tgt := 181) hx hb dL_areSheets_174 (by decide) (fun c_174 => ?_) (fun c_174 => ?_)
                        · skip
                          refine lv_iconst (v := 1) hx hb dL_areSheets_181 (by decide) ?_
                          refine q_reI (show (1 : Int32) = w_ti (v_now V) i9 i52 from by simp [w_ti, c_174]) J_182
                        · skip
                          refine lv_iconst (v := 2) hx hb dL_areSheets_177 (by decide) ?_
                          refine lv_goto (tgt := 182) hx hb dL_areSheets_178 (by decide) ?_
                          refine q_reI (show (2 : Int32) = w_ti (v_now V) i9 i52 from by simp [w_ti, c_174]) J_182
                      refine lv_icmp_ne (tgt := 162) hx hb dL_areSheets_155 (by decide) (fun c_155 => ?_) (fun c_155 => ?_)
                      · skip
                        have c_155 : (lokS (v_now V) i9 i52) = false := bI_n1 c_155
                        refine lv_iconst (v := 0) hx hb dL_areSheets_162 (by decide) ?_
                        refine q_reI (show (0 : Int32) = bI (lokS (v_now V) i9 i52) from by simp [bI, c_155]) J_163
                      · skip
                        have c_155 : (lokS (v_now V) i9 i52) = true := bI_e1 c_155
                        refine lv_iconst (v := 1) hx hb dL_areSheets_158 (by decide) ?_
                        refine lv_goto (tgt := 163) hx hb dL_areSheets_159 (by decide) ?_
                        refine q_reI (show (1 : Int32) = bI (lokS (v_now V) i9 i52) from by simp [bI, c_155]) J_163
                    refine lv_icmp_ne (tgt := 139) hx hb dL_areSheets_132 (by decide) (fun c_132 => ?_) (fun c_132 => ?_)
                    · skip
                      have c_132 : (tldS (v_now V) i9 i52) = false := bI_n1 c_132
                      refine lv_iconst (v := 0) hx hb dL_areSheets_139 (by decide) ?_
                      refine q_reI (show (0 : Int32) = bI (tldS (v_now V) i9 i52) from by simp [bI, c_132]) J_140
                    · skip
                      have c_132 : (tldS (v_now V) i9 i52) = true := bI_e1 c_132
                      refine lv_iconst (v := 1) hx hb dL_areSheets_135 (by decide) ?_
                      refine lv_goto (tgt := 140) hx hb dL_areSheets_136 (by decide) ?_
                      refine q_reI (show (1 : Int32) = bI (tldS (v_now V) i9 i52) from by simp [bI, c_132]) J_140
                  refine lv_if_ge (tgt := 105) hx hb dL_areSheets_98 (by decide) (fun c_98 => ?_) (fun c_98 => ?_)
                  · skip
                    refine lv_aload_n hx hb dL_areSheets_105 rfl (lv_at hl 11 rfl) ?_
                    refine lv_iload hx hb dL_areSheets_106 (lv_at hl 7 rfl) ?_
                    refine lv_iload hx hb dL_areSheets_108 (lv_at hl 3 rfl) ?_
                    refine lv_iconst (v := 2) hx hb dL_areSheets_110 (by decide) ?_
                    refine q_V (As := [.int (nI i9), .int (nI i52), .int 2]) (rest := []) ⟨hx, hb, hml, hown, hts⟩ (c_X4_sheet l g a b V (nI i9) (nI i52) 2 (by omega)) (cwV 3 hts gL_areSheets_X4_sheet rfl rfl rfl (by decide +kernel) ⟨Nat.le_of_ble_eq_true rfl, Nat.le_of_ble_eq_true rfl⟩) q_B_blind (va_recv hK hP (ci := 3) (q0 := 0) rfl rfl) (q_B_of hP hK hN) rfl hl.1 rfl (Nat.le_of_ble_eq_true rfl) dL_areSheets_111 (Nat.zero_le _) (Nat.zero_le _) ?_
                    refine lv_bipush (v := 100) hx hb dL_areSheets_114 (by decide) ?_
                    refine lv_isub hx hb dL_areSheets_116 ?_
                    refine q_reI (show (((sheR V (nI i9) (nI i52) 2) - 100) : Int32) = ptsS (v_now V) i9 i52 from by first | exact w_pt0 ho (t := i9) (r := i52) (by omega) lt_i52 c_98 | exact w_pt1 hn10 lt_i9 lt_i52 c_98) J_117
                  · skip
                    refine lv_iconst (v := 0) hx hb dL_areSheets_101 (by decide) ?_
                    refine lv_goto (tgt := 117) hx hb dL_areSheets_102 (by decide) ?_
                    refine q_reI (show (0 : Int32) = ptsS (v_now V) i9 i52 from by first | exact w_pt0 ho (t := i9) (r := i52) (by omega) lt_i52 c_98 | exact w_pt1 hn10 lt_i9 lt_i52 c_98) J_117
          exact L_52 (8 + 1) 0 0 0 (1000 - ((s_set (v_now V) 3) * (s_fin (v_now V) i9))) (nI (wroA (v_now V) i9)) (rfl) (rfl) (w_sc0 (v_now V) i9) (rfl) (Nat.zero_le _) (by omega) ls (lv_sub hl [0, 1, 2, 3, 4, 5, 6, 7, 8] rfl)
  exact L_9 (s_n (v_now V) + 1) 0 0 0 (rfl) (rfl) (Nat.zero_le _) (by omega) ls (lv_sub hl [0, 1, 2, 3, 4] rfl)
