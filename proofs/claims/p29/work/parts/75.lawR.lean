/-! the law on ranks, prizes and who can win -/

set_option maxHeartbeats 4000000 in
set_option maxRecDepth 100000 in
theorem c_L_areRanks (l : Launch) (g : q_G) (a : Nat → Nat → Nat) (b : Nat → Nat) (V : q_CV) (K : Nat) (hv : q_iv K V) (hK5 : K ≤ 512) : q_PM l yL_areRanks wsL_areRanks { frames := 9, cells := 0, slots := 0, locals := 210 } [.ref (b 0)] (q_B g (q_pqW g a b V)) (.int (bI true)) := by
  refine q_pm (cc := cL_areRanks) (maxL := 10) (ret := (some .boolean)) (by decide) rfl (Nat.le_of_ble_eq_true rfl) ?_
  intro p e s m args below meth c ls hx hb hml hown hts hr hlk hB hl
  obtain ⟨hP, hK, hN⟩ := hB
  have hl : lv_has ls 10 [(0, .ref (b 0))] := hl
  obtain ⟨ho, hpx, hpl, hh6, hn6⟩ := id hv
  have hn10 := ok_n ho
  have hn3 := hpx.1
  refine lv_aload_n hx hb dL_areRanks_0 rfl (lv_at hl 0 rfl) ?_
  refine lv_iconst (v := 0) hx hb dL_areRanks_1 (by decide) ?_
  refine q_V (As := [.int 0]) (rest := []) ⟨hx, hb, hml, hown, hts⟩ (c_X4_count l g a b V 0 (by omega)) (cwV 1 hts gL_areRanks_X4_count rfl rfl rfl (by decide +kernel) ⟨Nat.le_of_ble_eq_true rfl, Nat.le_of_ble_eq_true rfl⟩) q_B_blind (va_recv hK hP (ci := 3) (q0 := 0) rfl rfl) (q_B_of hP hK hN) rfl hl.1 rfl (Nat.le_of_ble_eq_true rfl) dL_areRanks_2 (Nat.zero_le _) (Nat.zero_le _) ?_
  refine q_reI (show (couR V 0 : Int32) = nI (s_n (v_now V)) from w_c0) ?_
  refine lv_istore_n (lv' := [(1, .int (nI (s_n (v_now V)))), (0, .ref (b 0))]) hx hb dL_areRanks_5 rfl hl (by decide) rfl (fun ls hl => ?_)
  refine lv_iconst (v := 0) hx hb dL_areRanks_6 (by decide) ?_
  refine lv_istore_n (lv' := [(2, .int 0), (1, .int (nI (s_n (v_now V)))), (0, .ref (b 0))]) hx hb dL_areRanks_7 rfl hl (by decide) rfl (fun ls hl => ?_)
  refine lv_iconst (v := 0) hx hb dL_areRanks_8 (by decide) ?_
  refine lv_istore_n (lv' := [(3, .int 0), (2, .int 0), (1, .int (nI (s_n (v_now V)))), (0, .ref (b 0))]) hx hb dL_areRanks_9 rfl hl (by decide) rfl (fun ls hl => ?_)
  refine lv_iconst (v := 0) hx hb dL_areRanks_10 (by decide) ?_
  refine lv_istore (lv' := [(4, .int 0), (3, .int 0), (2, .int 0), (1, .int (nI (s_n (v_now V)))), (0, .ref (b 0))]) hx hb dL_areRanks_11 hl (by decide) rfl (fun ls hl => ?_)
  refine lv_aload_n hx hb dL_areRanks_13 rfl (lv_at hl 4 rfl) ?_
  refine lv_iload_n hx hb dL_areRanks_14 rfl (lv_at hl 3 rfl) ?_
  refine q_V (As := [.int (nI (s_n (v_now V)))]) (rest := []) ⟨hx, hb, hml, hown, hts⟩ (c_X4_at l g a b V (nI (s_n (v_now V))) (by omega)) (cwV 1 hts gL_areRanks_X4_at rfl rfl rfl (by decide +kernel) ⟨Nat.le_of_ble_eq_true rfl, Nat.le_of_ble_eq_true rfl⟩) q_B_blind (va_recv hK hP (ci := 3) (q0 := 0) rfl rfl) (q_B_of hP hK hN) rfl hl.1 rfl (Nat.le_of_ble_eq_true rfl) dL_areRanks_15 (Nat.zero_le _) (Nat.zero_le _) ?_
  refine lv_iconst (v := (-1)) hx hb dL_areRanks_18 (by decide) ?_
  refine lv_icmp_ne (tgt := 35) hx hb dL_areRanks_19 (by decide) (fun c_19 => ?_) (fun c_19 => ?_)
  · skip
    exact absurd (w_at_n ho hK5) c_19
  · skip
    refine lv_aload_n hx hb dL_areRanks_22 rfl (lv_at hl 4 rfl) ?_
    refine lv_iconst (v := (-1)) hx hb dL_areRanks_23 (by decide) ?_
    refine q_V (As := [.int (-1)]) (rest := []) ⟨hx, hb, hml, hown, hts⟩ (c_X4_at l g a b V (-1) (by omega)) (cwV 1 hts gL_areRanks_X4_at rfl rfl rfl (by decide +kernel) ⟨Nat.le_of_ble_eq_true rfl, Nat.le_of_ble_eq_true rfl⟩) q_B_blind (va_recv hK hP (ci := 3) (q0 := 0) rfl rfl) (q_B_of hP hK hN) rfl hl.1 rfl (Nat.le_of_ble_eq_true rfl) dL_areRanks_24 (Nat.zero_le _) (Nat.zero_le _) ?_
    refine lv_iconst (v := (-1)) hx hb dL_areRanks_27 (by decide) ?_
    refine lv_icmp_ne (tgt := 35) hx hb dL_areRanks_28 (by decide) (fun c_28 => ?_) (fun c_28 => ?_)
    · skip
      exact absurd (w_at_m ho hK5) c_28
    · skip
      refine lv_iconst (v := 1) hx hb dL_areRanks_31 (by decide) ?_
      refine lv_goto (tgt := 36) hx hb dL_areRanks_32 (by decide) ?_
      refine lv_istore (lv' := [(5, .int 1), (4, .int 0), (3, .int 0), (2, .int 0), (1, .int (nI (s_n (v_now V)))), (0, .ref (b 0))]) hx hb dL_areRanks_36 hl (by decide) rfl (fun ls hl => ?_)
      refine lv_iconst (v := 0) hx hb dL_areRanks_38 (by decide) ?_
      refine lv_istore (lv' := [(6, .int 0), (5, .int 1), (4, .int 0), (3, .int 0), (2, .int 0), (1, .int (nI (s_n (v_now V)))), (0, .ref (b 0))]) hx hb dL_areRanks_39 hl (by decide) rfl (fun ls hl => ?_)
      have L_41 : ∀ (fu i41 : Nat) (y4_41 : Int32) (y3_41 : Int32) (y2_41 : Int32), y4_41 = w_all V i41 → y3_41 = q_acc 0 (s_paid (v_now V)) i41 → y2_41 = q_acc 0 (przS (v_now V)) i41 → i41 ≤ s_n (v_now V) → s_n (v_now V) < i41 + fu → ∀ ls : Array Slot, lv_has ls 10 [(6, .int (nI i41)), (5, .int 1), (4, .int y4_41), (3, .int y3_41), (2, .int y2_41), (1, .int (nI (s_n (v_now V)))), (0, .ref (b 0))] → W p l e { frames := 9, cells := 0, slots := 0, locals := 210 } s m args below meth c s.heap [] 0 0 (MQ below (k2_QcV (.int (bI true))) args s 0 0 (fun _ => False)) (F0 m 41 ls []) := by
        intro fu
        induction fu with
        | zero => intro i41 y4_41 y3_41 y2_41 ey4_41 ey3_41 ey2_41 hi_i41 hn_i41; exact absurd hn_i41 (by omega)
        | succ fu ih_i41 =>
          intro i41 y4_41 y3_41 y2_41 ey4_41 ey3_41 ey2_41 hi_i41 hn_i41 ls hl
          subst ey4_41
          subst ey3_41
          subst ey2_41
          refine lv_iload hx hb dL_areRanks_41 (lv_at hl 0 rfl) ?_
          refine lv_iload_n hx hb dL_areRanks_43 rfl (lv_at hl 5 rfl) ?_
          refine lv_icmp_ge (tgt := 279) hx hb dL_areRanks_44 (by decide) (fun c_44 => ?_) (fun c_44 => ?_)
          · skip
            have e_44 : i41 = s_n (v_now V) := q_ge_T (by omega) hi_i41 c_44
            subst e_44
            refine lv_aload_n hx hb dL_areRanks_279 rfl (lv_at hl 6 rfl) ?_
            refine q_V (As := []) (rest := []) ⟨hx, hb, hml, hown, hts⟩ (c_X4_canWin l g a b V  (by omega)) (cwV 0 hts gL_areRanks_X4_canWin rfl rfl rfl (by decide +kernel) ⟨Nat.le_of_ble_eq_true rfl, Nat.le_of_ble_eq_true rfl⟩) q_B_blind (va_recv hK hP (ci := 3) (q0 := 0) rfl rfl) (q_B_of hP hK hN) rfl hl.1 rfl (Nat.le_of_ble_eq_true rfl) dL_areRanks_280 (Nat.zero_le _) (Nat.zero_le _) ?_
            refine lv_istore (lv' := [(6, .int (canR V)), (5, .int 1), (4, .int (w_all V (s_n (v_now V)))), (3, .int (q_acc 0 (s_paid (v_now V)) (s_n (v_now V)))), (2, .int (q_acc 0 (przS (v_now V)) (s_n (v_now V)))), (1, .int (nI (s_n (v_now V)))), (0, .ref (b 0))]) hx hb dL_areRanks_283 hl (by decide) rfl (fun ls hl => ?_)
            refine lv_iconst (v := 0) hx hb dL_areRanks_285 (by decide) ?_
            refine lv_istore (lv' := [(7, .int 0), (6, .int (canR V)), (5, .int 1), (4, .int (w_all V (s_n (v_now V)))), (3, .int (q_acc 0 (s_paid (v_now V)) (s_n (v_now V)))), (2, .int (q_acc 0 (przS (v_now V)) (s_n (v_now V)))), (1, .int (nI (s_n (v_now V)))), (0, .ref (b 0))]) hx hb dL_areRanks_286 hl (by decide) rfl (fun ls hl => ?_)
            have L_288 : ∀ (fu i288 : Nat), i288 ≤ s_n (v_now V) → s_n (v_now V) < i288 + fu → ∀ ls : Array Slot, lv_has ls 10 [(7, .int (nI i288)), (6, .int (canR V)), (5, .int 1), (4, .int (w_all V (s_n (v_now V)))), (3, .int (q_acc 0 (s_paid (v_now V)) (s_n (v_now V)))), (2, .int (q_acc 0 (przS (v_now V)) (s_n (v_now V)))), (1, .int (nI (s_n (v_now V)))), (0, .ref (b 0))] → W p l e { frames := 9, cells := 0, slots := 0, locals := 210 } s m args below meth c s.heap [] 0 0 (MQ below (k2_QcV (.int (bI true))) args s 0 0 (fun _ => False)) (F0 m 288 ls []) := by
              intro fu
              induction fu with
              | zero => intro i288 hi_i288 hn_i288; exact absurd hn_i288 (by omega)
              | succ fu ih_i288 =>
                intro i288 hi_i288 hn_i288 ls hl
                refine lv_iload hx hb dL_areRanks_288 (lv_at hl 0 rfl) ?_
                refine lv_iload_n hx hb dL_areRanks_290 rfl (lv_at hl 6 rfl) ?_
                refine lv_icmp_ge (tgt := 385) hx hb dL_areRanks_291 (by decide) (fun c_291 => ?_) (fun c_291 => ?_)
                · skip
                  have e_291 : i288 = s_n (v_now V) := q_ge_T (by omega) hi_i288 c_291
                  subst e_291
                  refine lv_iload hx hb dL_areRanks_385 (lv_at hl 2 rfl) ?_
                  refine lv_if_eq (tgt := 460) hx hb dL_areRanks_387 (by decide) (fun c_387 => ?_) (fun c_387 => ?_)
                  · skip
                    exact absurd c_387 (by decide)
                  · skip
                    refine lv_iload_n hx hb dL_areRanks_390 rfl (lv_at hl 6 rfl) ?_
                    refine lv_if_eq (tgt := 403) hx hb dL_areRanks_391 (by decide) (fun c_391 => ?_) (fun c_391 => ?_)
                    · skip
                      exact absurd c_391 (nI_ne0 (by omega) (by omega))
                    · skip
                      refine lv_iload_n hx hb dL_areRanks_394 rfl (lv_at hl 5 rfl) ?_
                      refine lv_aload_n hx hb dL_areRanks_395 rfl (lv_at hl 7 rfl) ?_
                      refine lv_iconst (v := 3) hx hb dL_areRanks_396 (by decide) ?_
                      refine q_V (As := [.int 3]) (rest := [.int (q_acc 0 (przS (v_now V)) (s_n (v_now V)))]) ⟨hx, hb, hml, hown, hts⟩ (c_X4_count l g a b V 3 (by omega)) (cwV 1 hts gL_areRanks_X4_count rfl rfl rfl (by decide +kernel) ⟨Nat.le_of_ble_eq_true rfl, Nat.le_of_ble_eq_true rfl⟩) q_B_blind (va_recv hK hP (ci := 3) (q0 := 0) rfl rfl) (q_B_of hP hK hN) rfl hl.1 rfl (Nat.le_of_ble_eq_true rfl) dL_areRanks_397 (Nat.zero_le _) (Nat.zero_le _) ?_
                      refine lv_icmp_ne (tgt := 460) hx hb dL_areRanks_400 (by decide) (fun c_400 => ?_) (fun c_400 => ?_)
                      · skip
                        refine (c_400 ?_).elim; exact ((w_potP ho hK5 hpx).trans w_c3.symm)
                      · skip
                        refine lv_iload_n hx hb dL_areRanks_403 rfl (lv_at hl 4 rfl) ?_
                        refine lv_aload_n hx hb dL_areRanks_404 rfl (lv_at hl 7 rfl) ?_
                        refine lv_iconst (v := 1) hx hb dL_areRanks_405 (by decide) ?_
                        refine q_V (As := [.int 1]) (rest := [.int (q_acc 0 (s_paid (v_now V)) (s_n (v_now V)))]) ⟨hx, hb, hml, hown, hts⟩ (c_X4_count l g a b V 1 (by omega)) (cwV 1 hts gL_areRanks_X4_count rfl rfl rfl (by decide +kernel) ⟨Nat.le_of_ble_eq_true rfl, Nat.le_of_ble_eq_true rfl⟩) q_B_blind (va_recv hK hP (ci := 3) (q0 := 0) rfl rfl) (q_B_of hP hK hN) rfl hl.1 rfl (Nat.le_of_ble_eq_true rfl) dL_areRanks_406 (Nat.zero_le _) (Nat.zero_le _) ?_
                        refine lv_icmp_ne (tgt := 460) hx hb dL_areRanks_409 (by decide) (fun c_409 => ?_) (fun c_409 => ?_)
                        · skip
                          refine (c_409 ?_).elim; exact (w_c1 (V := V)).symm
                        · skip
                          refine lv_iload hx hb dL_areRanks_412 (lv_at hl 3 rfl) ?_
                          refine lv_iconst (v := 1) hx hb dL_areRanks_414 (by decide) ?_
                          refine lv_iload_n hx hb dL_areRanks_415 rfl (lv_at hl 6 rfl) ?_
                          refine lv_ishl hx hb dL_areRanks_416 ?_
                          refine lv_iconst (v := 1) hx hb dL_areRanks_417 (by decide) ?_
                          refine lv_isub hx hb dL_areRanks_418 ?_
                          refine lv_icmp_ne (tgt := 460) hx hb dL_areRanks_419 (by decide) (fun c_419 => ?_) (fun c_419 => ?_)
                          · skip
                            refine (c_419 ?_).elim; exact (w_all_n ho hK5)
                          · skip
                            refine lv_aload_n hx hb dL_areRanks_422 rfl (lv_at hl 7 rfl) ?_
                            refine lv_iconst (v := 2) hx hb dL_areRanks_423 (by decide) ?_
                            refine q_V (As := [.int 2]) (rest := []) ⟨hx, hb, hml, hown, hts⟩ (c_X4_count l g a b V 2 (by omega)) (cwV 1 hts gL_areRanks_X4_count rfl rfl rfl (by decide +kernel) ⟨Nat.le_of_ble_eq_true rfl, Nat.le_of_ble_eq_true rfl⟩) q_B_blind (va_recv hK hP (ci := 3) (q0 := 0) rfl rfl) (q_B_of hP hK hN) rfl hl.1 rfl (Nat.le_of_ble_eq_true rfl) dL_areRanks_424 (Nat.zero_le _) (Nat.zero_le _) ?_
                            refine lv_iload_n hx hb dL_areRanks_427 rfl (lv_at hl 4 rfl) ?_
                            refine lv_aload_n hx hb dL_areRanks_428 rfl (lv_at hl 7 rfl) ?_
                            refine lv_bipush (v := 10) hx hb dL_areRanks_429 (by decide) ?_
                            refine q_V (As := [.int 10]) (rest := [.int (q_acc 0 (s_paid (v_now V)) (s_n (v_now V))), .int (couR V 2)]) ⟨hx, hb, hml, hown, hts⟩ (c_X4_count l g a b V 10 (by omega)) (cwV 1 hts gL_areRanks_X4_count rfl rfl rfl (by decide +kernel) ⟨Nat.le_of_ble_eq_true rfl, Nat.le_of_ble_eq_true rfl⟩) q_B_blind (va_recv hK hP (ci := 3) (q0 := 0) rfl rfl) (q_B_of hP hK hN) rfl hl.1 rfl (Nat.le_of_ble_eq_true rfl) dL_areRanks_431 (Nat.zero_le _) (Nat.zero_le _) ?_
                            refine lv_imul hx hb dL_areRanks_434 ?_
                            refine lv_bipush (v := 100) hx hb dL_areRanks_435 (by decide) ?_
                            refine lv_idiv hx hb dL_areRanks_437 (by decide) ?_
                            refine lv_icmp_ne (tgt := 460) hx hb dL_areRanks_438 (by decide) (fun c_438 => ?_) (fun c_438 => ?_)
                            · skip
                              refine (c_438 ?_).elim; exact (by rw [w_c2, w_c10]; rfl)
                            · skip
                              refine lv_aload_n hx hb dL_areRanks_441 rfl (lv_at hl 7 rfl) ?_
                              refine lv_iconst (v := 3) hx hb dL_areRanks_442 (by decide) ?_
                              refine q_V (As := [.int 3]) (rest := []) ⟨hx, hb, hml, hown, hts⟩ (c_X4_count l g a b V 3 (by omega)) (cwV 1 hts gL_areRanks_X4_count rfl rfl rfl (by decide +kernel) ⟨Nat.le_of_ble_eq_true rfl, Nat.le_of_ble_eq_true rfl⟩) q_B_blind (va_recv hK hP (ci := 3) (q0 := 0) rfl rfl) (q_B_of hP hK hN) rfl hl.1 rfl (Nat.le_of_ble_eq_true rfl) dL_areRanks_443 (Nat.zero_le _) (Nat.zero_le _) ?_
                              refine lv_iload_n hx hb dL_areRanks_446 rfl (lv_at hl 4 rfl) ?_
                              refine lv_aload_n hx hb dL_areRanks_447 rfl (lv_at hl 7 rfl) ?_
                              refine lv_iconst (v := 2) hx hb dL_areRanks_448 (by decide) ?_
                              refine q_V (As := [.int 2]) (rest := [.int (q_acc 0 (s_paid (v_now V)) (s_n (v_now V))), .int (couR V 3)]) ⟨hx, hb, hml, hown, hts⟩ (c_X4_count l g a b V 2 (by omega)) (cwV 1 hts gL_areRanks_X4_count rfl rfl rfl (by decide +kernel) ⟨Nat.le_of_ble_eq_true rfl, Nat.le_of_ble_eq_true rfl⟩) q_B_blind (va_recv hK hP (ci := 3) (q0 := 0) rfl rfl) (q_B_of hP hK hN) rfl hl.1 rfl (Nat.le_of_ble_eq_true rfl) dL_areRanks_449 (Nat.zero_le _) (Nat.zero_le _) ?_
                              refine lv_isub hx hb dL_areRanks_452 ?_
                              refine lv_icmp_ne (tgt := 460) hx hb dL_areRanks_453 (by decide) (fun c_453 => ?_) (fun c_453 => ?_)
                              · skip
                                refine (c_453 ?_).elim; exact (by rw [w_c3, w_c2]; rfl)
                              · skip
                                refine lv_iconst (v := 1) hx hb dL_areRanks_456 (by decide) ?_
                                refine lv_goto (tgt := 461) hx hb dL_areRanks_457 (by decide) ?_
                                exact q_zret hx hb hr hlk dL_areRanks_461 (rfl)
                · skip
                  have lt_i288 : i288 < s_n (v_now V) := q_ge_F (by omega) hi_i288 c_291
                  refine lv_iload hx hb dL_areRanks_294 (lv_at hl 2 rfl) ?_
                  refine lv_if_eq (tgt := 385) hx hb dL_areRanks_296 (by decide) (fun c_296 => ?_) (fun c_296 => ?_)
                  · skip
                    exact absurd c_296 (by decide)
                  · skip
                    refine lv_iconst (v := 1) hx hb dL_areRanks_299 (by decide) ?_
                    refine lv_istore (lv' := [(8, .int 1), (7, .int (nI i288)), (6, .int (canR V)), (5, .int 1), (4, .int (w_all V (s_n (v_now V)))), (3, .int (q_acc 0 (s_paid (v_now V)) (s_n (v_now V)))), (2, .int (q_acc 0 (przS (v_now V)) (s_n (v_now V)))), (1, .int (nI (s_n (v_now V)))), (0, .ref (b 0))]) hx hb dL_areRanks_300 hl (by decide) rfl (fun ls hl => ?_)
                    refine lv_iconst (v := 0) hx hb dL_areRanks_302 (by decide) ?_
                    refine lv_istore (lv' := [(9, .int 0), (8, .int 1), (7, .int (nI i288)), (6, .int (canR V)), (5, .int 1), (4, .int (w_all V (s_n (v_now V)))), (3, .int (q_acc 0 (s_paid (v_now V)) (s_n (v_now V)))), (2, .int (q_acc 0 (przS (v_now V)) (s_n (v_now V)))), (1, .int (nI (s_n (v_now V)))), (0, .ref (b 0))]) hx hb dL_areRanks_303 hl (by decide) rfl (fun ls hl => ?_)
                    have L_305 : ∀ (fu i305 : Nat) (y8_305 : Int32), y8_305 = bI (!q_any (cro1 (v_now V) i288) i305) → i305 ≤ s_n (v_now V) → s_n (v_now V) < i305 + fu → ∀ ls : Array Slot, lv_has ls 10 [(9, .int (nI i305)), (8, .int y8_305), (7, .int (nI i288)), (6, .int (canR V)), (5, .int 1), (4, .int (w_all V (s_n (v_now V)))), (3, .int (q_acc 0 (s_paid (v_now V)) (s_n (v_now V)))), (2, .int (q_acc 0 (przS (v_now V)) (s_n (v_now V)))), (1, .int (nI (s_n (v_now V)))), (0, .ref (b 0))] → W p l e { frames := 9, cells := 0, slots := 0, locals := 210 } s m args below meth c s.heap [] 0 0 (MQ below (k2_QcV (.int (bI true))) args s 0 0 (fun _ => False)) (F0 m 305 ls []) := by
                      intro fu
                      induction fu with
                      | zero => intro i305 y8_305 ey8_305 hi_i305 hn_i305; exact absurd hn_i305 (by omega)
                      | succ fu ih_i305 =>
                        intro i305 y8_305 ey8_305 hi_i305 hn_i305 ls hl
                        subst ey8_305
                        refine lv_iload hx hb dL_areRanks_305 (lv_at hl 0 rfl) ?_
                        refine lv_iload_n hx hb dL_areRanks_307 rfl (lv_at hl 8 rfl) ?_
                        refine lv_icmp_ge (tgt := 352) hx hb dL_areRanks_308 (by decide) (fun c_308 => ?_) (fun c_308 => ?_)
                        · skip
                          have e_308 : i305 = s_n (v_now V) := q_ge_T (by omega) hi_i305 c_308
                          subst e_308
                          refine lv_iload hx hb dL_areRanks_352 (lv_at hl 3 rfl) ?_
                          refine lv_iload hx hb dL_areRanks_354 (lv_at hl 2 rfl) ?_
                          refine lv_ishr hx hb dL_areRanks_356 ?_
                          refine lv_iconst (v := 1) hx hb dL_areRanks_357 (by decide) ?_
                          refine lv_iand hx hb dL_areRanks_358 ?_
                          refine q_reI (show ((((canR V) >>> ((nI i288) &&& 31)) &&& 1) : Int32) = bI (croS (v_now V) i288) from w_bit (croS (v_now V)) _ lt_i288 hn10) ?_
                          refine lv_iload hx hb dL_areRanks_359 (lv_at hl 1 rfl) ?_
                          have J_369 : W p l e { frames := 9, cells := 0, slots := 0, locals := 210 } s m args below meth c s.heap [] 0 0 (MQ below (k2_QcV (.int (bI true))) args s 0 0 (fun _ => False)) (F0 m 369 ls [.int (bI (croS (v_now V) i288)), .int (bI (croS (v_now V) i288))]) := by
                            refine lv_icmp_ne (tgt := 376) hx hb dL_areRanks_369 (by decide) (fun c_369 => ?_) (fun c_369 => ?_)
                            · skip
                              exact absurd rfl c_369
                            · skip
                              refine lv_iconst (v := 1) hx hb dL_areRanks_372 (by decide) ?_
                              refine lv_goto (tgt := 377) hx hb dL_areRanks_373 (by decide) ?_
                              refine lv_istore (lv' := [(5, .int 1), (9, .int (nI (s_n (v_now V)))), (8, .int (bI (!q_any (cro1 (v_now V) i288) (s_n (v_now V))))), (7, .int (nI i288)), (6, .int (canR V)), (4, .int (w_all V (s_n (v_now V)))), (3, .int (q_acc 0 (s_paid (v_now V)) (s_n (v_now V)))), (2, .int (q_acc 0 (przS (v_now V)) (s_n (v_now V)))), (1, .int (nI (s_n (v_now V)))), (0, .ref (b 0))]) hx hb dL_areRanks_377 hl (by decide) rfl (fun ls hl => ?_)
                              refine lv_iinc (v := nI (i288 + 1)) (lv' := [(7, .int (nI (i288 + 1))), (5, .int 1), (9, .int (nI (s_n (v_now V)))), (8, .int (bI (!q_any (cro1 (v_now V) i288) (s_n (v_now V))))), (6, .int (canR V)), (4, .int (w_all V (s_n (v_now V)))), (3, .int (q_acc 0 (s_paid (v_now V)) (s_n (v_now V)))), (2, .int (q_acc 0 (przS (v_now V)) (s_n (v_now V)))), (1, .int (nI (s_n (v_now V)))), (0, .ref (b 0))]) hx hb dL_areRanks_379 hl (k := 3) rfl (nI_1 _) (by decide) rfl (fun ls hl => ?_)
                              refine lv_goto (tgt := 288) hx hb dL_areRanks_382 (by decide) ?_
                              exact ih_i288 (i288 + 1) lt_i288 (by omega) ls (lv_sub hl [0, 4, 1, 5, 6, 7, 8, 9] rfl)
                          refine lv_if_eq (tgt := 368) hx hb dL_areRanks_361 (by decide) (fun c_361 => ?_) (fun c_361 => ?_)
                          · skip
                            have c_361 : (!q_any (cro1 (v_now V) i288) (s_n (v_now V))) = false := bI_eq c_361
                            refine lv_iconst (v := 0) hx hb dL_areRanks_368 (by decide) ?_
                            refine q_reI (show (0 : Int32) = bI (croS (v_now V) i288) from by simp [bI, croS, c_19, c_28, c_361]) J_369
                          · skip
                            have c_361 : (!q_any (cro1 (v_now V) i288) (s_n (v_now V))) = true := bI_ne c_361
                            refine lv_iconst (v := 1) hx hb dL_areRanks_364 (by decide) ?_
                            refine lv_goto (tgt := 369) hx hb dL_areRanks_365 (by decide) ?_
                            refine q_reI (show (1 : Int32) = bI (croS (v_now V) i288) from by simp [bI, croS, c_19, c_28, c_361]) J_369
                        · skip
                          have lt_i305 : i305 < s_n (v_now V) := q_ge_F (by omega) hi_i305 c_308
                          refine lv_iload hx hb dL_areRanks_311 (lv_at hl 1 rfl) ?_
                          refine lv_if_eq (tgt := 343) hx hb dL_areRanks_313 (by decide) (fun c_313 => ?_) (fun c_313 => ?_)
                          · skip
                            have c_313 : (!q_any (cro1 (v_now V) i288) i305) = false := bI_eq c_313
                            refine lv_iconst (v := 0) hx hb dL_areRanks_343 (by decide) ?_
                            refine lv_istore (lv' := [(8, .int 0), (9, .int (nI i305)), (7, .int (nI i288)), (6, .int (canR V)), (5, .int 1), (4, .int (w_all V (s_n (v_now V)))), (3, .int (q_acc 0 (s_paid (v_now V)) (s_n (v_now V)))), (2, .int (q_acc 0 (przS (v_now V)) (s_n (v_now V)))), (1, .int (nI (s_n (v_now V)))), (0, .ref (b 0))]) hx hb dL_areRanks_344 hl (by decide) rfl (fun ls hl => ?_)
                            refine lv_iinc (v := nI (i305 + 1)) (lv' := [(9, .int (nI (i305 + 1))), (8, .int 0), (7, .int (nI i288)), (6, .int (canR V)), (5, .int 1), (4, .int (w_all V (s_n (v_now V)))), (3, .int (q_acc 0 (s_paid (v_now V)) (s_n (v_now V)))), (2, .int (q_acc 0 (przS (v_now V)) (s_n (v_now V)))), (1, .int (nI (s_n (v_now V)))), (0, .ref (b 0))]) hx hb dL_areRanks_346 hl (k := 1) rfl (nI_1 _) (by decide) rfl (fun ls hl => ?_)
                            refine lv_goto (tgt := 305) hx hb dL_areRanks_349 (by decide) ?_
                            exact ih_i305 (i305 + 1) 0 (by simp [q_any, cro1, bI, c_19, c_28, c_313]) lt_i305 (by omega) ls (lv_sub hl [0, 1, 2, 3, 4, 5, 6, 7, 8, 9] rfl)
                          · skip
                            have c_313 : (!q_any (cro1 (v_now V) i288) i305) = true := bI_ne c_313
                            refine lv_iload hx hb dL_areRanks_316 (lv_at hl 0 rfl) ?_
                            refine lv_iload hx hb dL_areRanks_318 (lv_at hl 2 rfl) ?_
                            refine lv_icmp_eq (tgt := 339) hx hb dL_areRanks_320 (by decide) (fun c_320 => ?_) (fun c_320 => ?_)
                            · skip
                              refine lv_iconst (v := 1) hx hb dL_areRanks_339 (by decide) ?_
                              refine lv_goto (tgt := 344) hx hb dL_areRanks_340 (by decide) ?_
                              refine lv_istore (lv' := [(8, .int 1), (9, .int (nI i305)), (7, .int (nI i288)), (6, .int (canR V)), (5, .int 1), (4, .int (w_all V (s_n (v_now V)))), (3, .int (q_acc 0 (s_paid (v_now V)) (s_n (v_now V)))), (2, .int (q_acc 0 (przS (v_now V)) (s_n (v_now V)))), (1, .int (nI (s_n (v_now V)))), (0, .ref (b 0))]) hx hb dL_areRanks_344 hl (by decide) rfl (fun ls hl => ?_)
                              refine lv_iinc (v := nI (i305 + 1)) (lv' := [(9, .int (nI (i305 + 1))), (8, .int 1), (7, .int (nI i288)), (6, .int (canR V)), (5, .int 1), (4, .int (w_all V (s_n (v_now V)))), (3, .int (q_acc 0 (s_paid (v_now V)) (s_n (v_now V)))), (2, .int (q_acc 0 (przS (v_now V)) (s_n (v_now V)))), (1, .int (nI (s_n (v_now V)))), (0, .ref (b 0))]) hx hb dL_areRanks_346 hl (k := 1) rfl (nI_1 _) (by decide) rfl (fun ls hl => ?_)
                              refine lv_goto (tgt := 305) hx hb dL_areRanks_349 (by decide) ?_
                              exact ih_i305 (i305 + 1) 1 (by simp [q_any, cro1, bI, c_19, c_28, c_313, c_320]) lt_i305 (by omega) ls (lv_sub hl [0, 1, 2, 3, 4, 5, 6, 7, 8, 9] rfl)
                            · skip
                              refine lv_aload_n hx hb dL_areRanks_323 rfl (lv_at hl 9 rfl) ?_
                              refine lv_iload hx hb dL_areRanks_324 (lv_at hl 2 rfl) ?_
                              refine q_V (As := [.int (nI i288)]) (rest := []) ⟨hx, hb, hml, hown, hts⟩ (c_X4_most l g a b V (nI i288) (by omega)) (cwV 1 hts gL_areRanks_X4_most rfl rfl rfl (by decide +kernel) ⟨Nat.le_of_ble_eq_true rfl, Nat.le_of_ble_eq_true rfl⟩) q_B_blind (va_recv hK hP (ci := 3) (q0 := 0) rfl rfl) (q_B_of hP hK hN) rfl hl.1 rfl (Nat.le_of_ble_eq_true rfl) dL_areRanks_326 (Nat.zero_le _) (Nat.zero_le _) ?_
                              refine lv_aload_n hx hb dL_areRanks_329 rfl (lv_at hl 9 rfl) ?_
                              refine lv_iload hx hb dL_areRanks_330 (lv_at hl 0 rfl) ?_
                              refine lv_iconst (v := 0) hx hb dL_areRanks_332 (by decide) ?_
                              refine q_V (As := [.int (nI i305), .int 0]) (rest := [.int (mosR V (nI i288))]) ⟨hx, hb, hml, hown, hts⟩ (c_X4_ofTeam l g a b V (nI i305) 0 (by omega)) (cwV 2 hts gL_areRanks_X4_ofTeam rfl rfl rfl (by decide +kernel) ⟨Nat.le_of_ble_eq_true rfl, Nat.le_of_ble_eq_true rfl⟩) q_B_blind (va_recv hK hP (ci := 3) (q0 := 0) rfl rfl) (q_B_of hP hK hN) rfl hl.1 rfl (Nat.le_of_ble_eq_true rfl) dL_areRanks_333 (Nat.zero_le _) (Nat.zero_le _) ?_
                              refine lv_icmp_lt (tgt := 343) hx hb dL_areRanks_336 (by decide) (fun c_336 => ?_) (fun c_336 => ?_)
                              · skip
                                have c_336 : ¬ scoS (v_now V) i305 ≤ gscS (v_now V) i288 := (w_mltV ho hK5 lt_i288 lt_i305).mp c_336
                                refine lv_iconst (v := 0) hx hb dL_areRanks_343 (by decide) ?_
                                refine lv_istore (lv' := [(8, .int 0), (9, .int (nI i305)), (7, .int (nI i288)), (6, .int (canR V)), (5, .int 1), (4, .int (w_all V (s_n (v_now V)))), (3, .int (q_acc 0 (s_paid (v_now V)) (s_n (v_now V)))), (2, .int (q_acc 0 (przS (v_now V)) (s_n (v_now V)))), (1, .int (nI (s_n (v_now V)))), (0, .ref (b 0))]) hx hb dL_areRanks_344 hl (by decide) rfl (fun ls hl => ?_)
                                refine lv_iinc (v := nI (i305 + 1)) (lv' := [(9, .int (nI (i305 + 1))), (8, .int 0), (7, .int (nI i288)), (6, .int (canR V)), (5, .int 1), (4, .int (w_all V (s_n (v_now V)))), (3, .int (q_acc 0 (s_paid (v_now V)) (s_n (v_now V)))), (2, .int (q_acc 0 (przS (v_now V)) (s_n (v_now V)))), (1, .int (nI (s_n (v_now V)))), (0, .ref (b 0))]) hx hb dL_areRanks_346 hl (k := 1) rfl (nI_1 _) (by decide) rfl (fun ls hl => ?_)
                                refine lv_goto (tgt := 305) hx hb dL_areRanks_349 (by decide) ?_
                                exact ih_i305 (i305 + 1) 0 (by simp [q_any, cro1, bI, c_19, c_28, c_313, c_320, c_336]) lt_i305 (by omega) ls (lv_sub hl [0, 1, 2, 3, 4, 5, 6, 7, 8, 9] rfl)
                              · skip
                                have c_336 : scoS (v_now V) i305 ≤ gscS (v_now V) i288 := Classical.byContradiction fun q => c_336 ((w_mltV ho hK5 lt_i288 lt_i305).mpr q)
                                refine lv_iconst (v := 1) hx hb dL_areRanks_339 (by decide) ?_
                                refine lv_goto (tgt := 344) hx hb dL_areRanks_340 (by decide) ?_
                                refine lv_istore (lv' := [(8, .int 1), (9, .int (nI i305)), (7, .int (nI i288)), (6, .int (canR V)), (5, .int 1), (4, .int (w_all V (s_n (v_now V)))), (3, .int (q_acc 0 (s_paid (v_now V)) (s_n (v_now V)))), (2, .int (q_acc 0 (przS (v_now V)) (s_n (v_now V)))), (1, .int (nI (s_n (v_now V)))), (0, .ref (b 0))]) hx hb dL_areRanks_344 hl (by decide) rfl (fun ls hl => ?_)
                                refine lv_iinc (v := nI (i305 + 1)) (lv' := [(9, .int (nI (i305 + 1))), (8, .int 1), (7, .int (nI i288)), (6, .int (canR V)), (5, .int 1), (4, .int (w_all V (s_n (v_now V)))), (3, .int (q_acc 0 (s_paid (v_now V)) (s_n (v_now V)))), (2, .int (q_acc 0 (przS (v_now V)) (s_n (v_now V)))), (1, .int (nI (s_n (v_now V)))), (0, .ref (b 0))]) hx hb dL_areRanks_346 hl (k := 1) rfl (nI_1 _) (by decide) rfl (fun ls hl => ?_)
                                refine lv_goto (tgt := 305) hx hb dL_areRanks_349 (by decide) ?_
                                exact ih_i305 (i305 + 1) 1 (by simp [q_any, cro1, bI, c_19, c_28, c_313, c_320, c_336]) lt_i305 (by omega) ls (lv_sub hl [0, 1, 2, 3, 4, 5, 6, 7, 8, 9] rfl)
                    exact L_305 (s_n (v_now V) + 1) 0 1 (rfl) (Nat.zero_le _) (by omega) ls (lv_sub hl [0, 1, 2, 3, 4, 5, 6, 7, 8, 9] rfl)
            exact L_288 (s_n (v_now V) + 1) 0 (Nat.zero_le _) (by omega) ls (lv_sub hl [0, 1, 2, 3, 4, 5, 6, 7] rfl)
          · skip
            have lt_i41 : i41 < s_n (v_now V) := q_ge_F (by omega) hi_i41 c_44
            refine lv_iload hx hb dL_areRanks_47 (lv_at hl 1 rfl) ?_
            refine lv_if_eq (tgt := 279) hx hb dL_areRanks_49 (by decide) (fun c_49 => ?_) (fun c_49 => ?_)
            · skip
              exact absurd c_49 (by decide)
            · skip
              refine lv_iconst (v := 0) hx hb dL_areRanks_52 (by decide) ?_
              refine lv_istore (lv' := [(7, .int 0), (6, .int (nI i41)), (5, .int 1), (4, .int (w_all V i41)), (3, .int (q_acc 0 (s_paid (v_now V)) i41)), (2, .int (q_acc 0 (przS (v_now V)) i41)), (1, .int (nI (s_n (v_now V)))), (0, .ref (b 0))]) hx hb dL_areRanks_53 hl (by decide) rfl (fun ls hl => ?_)
              refine lv_iconst (v := 0) hx hb dL_areRanks_55 (by decide) ?_
              refine lv_istore (lv' := [(8, .int 0), (7, .int 0), (6, .int (nI i41)), (5, .int 1), (4, .int (w_all V i41)), (3, .int (q_acc 0 (s_paid (v_now V)) i41)), (2, .int (q_acc 0 (przS (v_now V)) i41)), (1, .int (nI (s_n (v_now V)))), (0, .ref (b 0))]) hx hb dL_areRanks_56 hl (by decide) rfl (fun ls hl => ?_)
              refine lv_iconst (v := 0) hx hb dL_areRanks_58 (by decide) ?_
              refine lv_istore (lv' := [(9, .int 0), (8, .int 0), (7, .int 0), (6, .int (nI i41)), (5, .int 1), (4, .int (w_all V i41)), (3, .int (q_acc 0 (s_paid (v_now V)) i41)), (2, .int (q_acc 0 (przS (v_now V)) i41)), (1, .int (nI (s_n (v_now V)))), (0, .ref (b 0))]) hx hb dL_areRanks_59 hl (by decide) rfl (fun ls hl => ?_)
              have L_61 : ∀ (fu i61 : Nat) (y8_61 : Int32) (y7_61 : Int32), y8_61 = q_or (tie1 (v_now V) i41) i61 → y7_61 = nI (q_cnt (fun o => aheS (v_now V) o i41) i61) → i61 ≤ s_n (v_now V) → s_n (v_now V) < i61 + fu → ∀ ls : Array Slot, lv_has ls 10 [(9, .int (nI i61)), (8, .int y8_61), (7, .int y7_61), (6, .int (nI i41)), (5, .int 1), (4, .int (w_all V i41)), (3, .int (q_acc 0 (s_paid (v_now V)) i41)), (2, .int (q_acc 0 (przS (v_now V)) i41)), (1, .int (nI (s_n (v_now V)))), (0, .ref (b 0))] → W p l e { frames := 9, cells := 0, slots := 0, locals := 210 } s m args below meth c s.heap [] 0 0 (MQ below (k2_QcV (.int (bI true))) args s 0 0 (fun _ => False)) (F0 m 61 ls []) := by
                intro fu
                induction fu with
                | zero => intro i61 y8_61 y7_61 ey8_61 ey7_61 hi_i61 hn_i61; exact absurd hn_i61 (by omega)
                | succ fu ih_i61 =>
                  intro i61 y8_61 y7_61 ey8_61 ey7_61 hi_i61 hn_i61 ls hl
                  subst ey8_61
                  subst ey7_61
                  refine lv_iload hx hb dL_areRanks_61 (lv_at hl 0 rfl) ?_
                  refine lv_iload_n hx hb dL_areRanks_63 rfl (lv_at hl 8 rfl) ?_
                  refine lv_icmp_ge (tgt := 136) hx hb dL_areRanks_64 (by decide) (fun c_64 => ?_) (fun c_64 => ?_)
                  · skip
                    have e_64 : i61 = s_n (v_now V) := q_ge_T (by omega) hi_i61 c_64
                    subst e_64
                    refine lv_iload_n hx hb dL_areRanks_136 rfl (lv_at hl 7 rfl) ?_
                    refine lv_aload_n hx hb dL_areRanks_137 rfl (lv_at hl 9 rfl) ?_
                    refine lv_iload hx hb dL_areRanks_138 (lv_at hl 3 rfl) ?_
                    refine lv_iconst (v := 2) hx hb dL_areRanks_140 (by decide) ?_
                    refine q_V (As := [.int (nI i41), .int 2]) (rest := [.int (q_acc 0 (przS (v_now V)) i41)]) ⟨hx, hb, hml, hown, hts⟩ (c_X4_ofTeam l g a b V (nI i41) 2 (by omega)) (cwV 2 hts gL_areRanks_X4_ofTeam rfl rfl rfl (by decide +kernel) ⟨Nat.le_of_ble_eq_true rfl, Nat.le_of_ble_eq_true rfl⟩) q_B_blind (va_recv hK hP (ci := 3) (q0 := 0) rfl rfl) (q_B_of hP hK hN) rfl hl.1 rfl (Nat.le_of_ble_eq_true rfl) dL_areRanks_141 (Nat.zero_le _) (Nat.zero_le _) ?_
                    refine q_reI (show (oftR V (nI i41) 2 : Int32) = przS (v_now V) i41 from w_o2 hn10 lt_i41) ?_
                    refine lv_iadd hx hb dL_areRanks_144 ?_
                    refine lv_istore_n (lv' := [(2, .int ((q_acc 0 (przS (v_now V)) i41) + (przS (v_now V) i41))), (9, .int (nI (s_n (v_now V)))), (8, .int (q_or (tie1 (v_now V) i41) (s_n (v_now V)))), (7, .int (nI (q_cnt (fun o => aheS (v_now V) o i41) (s_n (v_now V))))), (6, .int (nI i41)), (5, .int 1), (4, .int (w_all V i41)), (3, .int (q_acc 0 (s_paid (v_now V)) i41)), (1, .int (nI (s_n (v_now V)))), (0, .ref (b 0))]) hx hb dL_areRanks_145 rfl hl (by decide) rfl (fun ls hl => ?_)
                    refine lv_iload_n hx hb dL_areRanks_146 rfl (lv_at hl 7 rfl) ?_
                    refine lv_aload_n hx hb dL_areRanks_147 rfl (lv_at hl 9 rfl) ?_
                    refine lv_iload hx hb dL_areRanks_148 (lv_at hl 4 rfl) ?_
                    refine lv_bipush (v := 8) hx hb dL_areRanks_150 (by decide) ?_
                    refine q_V (As := [.int (nI i41), .int 8]) (rest := [.int (q_acc 0 (s_paid (v_now V)) i41)]) ⟨hx, hb, hml, hown, hts⟩ (c_X4_ofTeam l g a b V (nI i41) 8 (by omega)) (cwV 2 hts gL_areRanks_X4_ofTeam rfl rfl rfl (by decide +kernel) ⟨Nat.le_of_ble_eq_true rfl, Nat.le_of_ble_eq_true rfl⟩) q_B_blind (va_recv hK hP (ci := 3) (q0 := 0) rfl rfl) (q_B_of hP hK hN) rfl hl.1 rfl (Nat.le_of_ble_eq_true rfl) dL_areRanks_152 (Nat.zero_le _) (Nat.zero_le _) ?_
                    refine q_reI (show (oftR V (nI i41) 8 : Int32) = s_paid (v_now V) i41 from w_o8 hn10 lt_i41) ?_
                    refine lv_iadd hx hb dL_areRanks_155 ?_
                    refine lv_istore_n (lv' := [(3, .int ((q_acc 0 (s_paid (v_now V)) i41) + (s_paid (v_now V) i41))), (2, .int ((q_acc 0 (przS (v_now V)) i41) + (przS (v_now V) i41))), (9, .int (nI (s_n (v_now V)))), (8, .int (q_or (tie1 (v_now V) i41) (s_n (v_now V)))), (7, .int (nI (q_cnt (fun o => aheS (v_now V) o i41) (s_n (v_now V))))), (6, .int (nI i41)), (5, .int 1), (4, .int (w_all V i41)), (1, .int (nI (s_n (v_now V)))), (0, .ref (b 0))]) hx hb dL_areRanks_156 rfl hl (by decide) rfl (fun ls hl => ?_)
                    refine lv_iload hx hb dL_areRanks_157 (lv_at hl 7 rfl) ?_
                    refine lv_iconst (v := 1) hx hb dL_areRanks_159 (by decide) ?_
                    refine lv_aload_n hx hb dL_areRanks_160 rfl (lv_at hl 9 rfl) ?_
                    refine lv_iload hx hb dL_areRanks_161 (lv_at hl 5 rfl) ?_
                    refine q_V (As := [.int (nI i41)]) (rest := [.int 1, .int (w_all V i41)]) ⟨hx, hb, hml, hown, hts⟩ (c_X4_at l g a b V (nI i41) (by omega)) (cwV 1 hts gL_areRanks_X4_at rfl rfl rfl (by decide +kernel) ⟨Nat.le_of_ble_eq_true rfl, Nat.le_of_ble_eq_true rfl⟩) q_B_blind (va_recv hK hP (ci := 3) (q0 := 0) rfl rfl) (q_B_of hP hK hN) rfl hl.1 rfl (Nat.le_of_ble_eq_true rfl) dL_areRanks_163 (Nat.zero_le _) (Nat.zero_le _) ?_
                    refine lv_ishl hx hb dL_areRanks_166 ?_
                    refine lv_ior hx hb dL_areRanks_167 ?_
                    refine lv_istore (lv' := [(4, .int ((w_all V i41) ||| (1 <<< ((atR V (nI i41)) &&& 31)))), (3, .int ((q_acc 0 (s_paid (v_now V)) i41) + (s_paid (v_now V) i41))), (2, .int ((q_acc 0 (przS (v_now V)) i41) + (przS (v_now V) i41))), (9, .int (nI (s_n (v_now V)))), (8, .int (q_or (tie1 (v_now V) i41) (s_n (v_now V)))), (7, .int (nI (q_cnt (fun o => aheS (v_now V) o i41) (s_n (v_now V))))), (6, .int (nI i41)), (5, .int 1), (1, .int (nI (s_n (v_now V)))), (0, .ref (b 0))]) hx hb dL_areRanks_168 hl (by decide) rfl (fun ls hl => ?_)
                    refine lv_aload_n hx hb dL_areRanks_170 rfl (lv_at hl 9 rfl) ?_
                    refine lv_iload hx hb dL_areRanks_171 (lv_at hl 6 rfl) ?_
                    refine lv_iconst (v := 1) hx hb dL_areRanks_173 (by decide) ?_
                    refine q_V (As := [.int (nI i41), .int 1]) (rest := []) ⟨hx, hb, hml, hown, hts⟩ (c_X4_ofTeam l g a b V (nI i41) 1 (by omega)) (cwV 2 hts gL_areRanks_X4_ofTeam rfl rfl rfl (by decide +kernel) ⟨Nat.le_of_ble_eq_true rfl, Nat.le_of_ble_eq_true rfl⟩) q_B_blind (va_recv hK hP (ci := 3) (q0 := 0) rfl rfl) (q_B_of hP hK hN) rfl hl.1 rfl (Nat.le_of_ble_eq_true rfl) dL_areRanks_174 (Nat.zero_le _) (Nat.zero_le _) ?_
                    refine q_reI (show (oftR V (nI i41) 1 : Int32) = nI (rnkS (v_now V) i41) from w_o1 hn10 lt_i41) ?_
                    refine lv_iload hx hb dL_areRanks_177 (lv_at hl 5 rfl) ?_
                    refine lv_iconst (v := 1) hx hb dL_areRanks_179 (by decide) ?_
                    refine lv_iadd hx hb dL_areRanks_180 ?_
                    refine lv_icmp_ne (tgt := 270) hx hb dL_areRanks_181 (by decide) (fun c_181 => ?_) (fun c_181 => ?_)
                    · skip
                      refine (c_181 ?_).elim; exact (nI_1 (q_cnt (fun o => aheS (v_now V) o i41) (s_n (v_now V)))).symm
                    · skip
                      refine lv_aload_n hx hb dL_areRanks_184 rfl (lv_at hl 9 rfl) ?_
                      refine lv_iload hx hb dL_areRanks_185 (lv_at hl 6 rfl) ?_
                      refine lv_bipush (v := 9) hx hb dL_areRanks_187 (by decide) ?_
                      refine q_V (As := [.int (nI i41), .int 9]) (rest := []) ⟨hx, hb, hml, hown, hts⟩ (c_X4_ofTeam l g a b V (nI i41) 9 (by omega)) (cwV 2 hts gL_areRanks_X4_ofTeam rfl rfl rfl (by decide +kernel) ⟨Nat.le_of_ble_eq_true rfl, Nat.le_of_ble_eq_true rfl⟩) q_B_blind (va_recv hK hP (ci := 3) (q0 := 0) rfl rfl) (q_B_of hP hK hN) rfl hl.1 rfl (Nat.le_of_ble_eq_true rfl) dL_areRanks_189 (Nat.zero_le _) (Nat.zero_le _) ?_
                      refine q_reI (show (oftR V (nI i41) 9 : Int32) = tieS (v_now V) i41 from w_o9 hn10 lt_i41) ?_
                      refine lv_iload hx hb dL_areRanks_192 (lv_at hl 4 rfl) ?_
                      refine lv_icmp_ne (tgt := 270) hx hb dL_areRanks_194 (by decide) (fun c_194 => ?_) (fun c_194 => ?_)
                      · skip
                        exact absurd rfl c_194
                      · skip
                        refine lv_iload hx hb dL_areRanks_197 (lv_at hl 6 rfl) ?_
                        refine lv_if_eq (tgt := 229) hx hb dL_areRanks_199 (by decide) (fun c_199 => ?_) (fun c_199 => ?_)
                        · skip
                          refine lv_aload_n hx hb dL_areRanks_229 rfl (lv_at hl 9 rfl) ?_
                          refine lv_iload hx hb dL_areRanks_230 (lv_at hl 6 rfl) ?_
                          refine q_V (As := [.int (nI i41)]) (rest := []) ⟨hx, hb, hml, hown, hts⟩ (c_X4_most l g a b V (nI i41) (by omega)) (cwV 1 hts gL_areRanks_X4_most rfl rfl rfl (by decide +kernel) ⟨Nat.le_of_ble_eq_true rfl, Nat.le_of_ble_eq_true rfl⟩) q_B_blind (va_recv hK hP (ci := 3) (q0 := 0) rfl rfl) (q_B_of hP hK hN) rfl hl.1 rfl (Nat.le_of_ble_eq_true rfl) dL_areRanks_232 (Nat.zero_le _) (Nat.zero_le _) ?_
                          refine lv_aload_n hx hb dL_areRanks_235 rfl (lv_at hl 9 rfl) ?_
                          refine lv_iload hx hb dL_areRanks_236 (lv_at hl 6 rfl) ?_
                          refine lv_iconst (v := 0) hx hb dL_areRanks_238 (by decide) ?_
                          refine q_V (As := [.int (nI i41), .int 0]) (rest := [.int (mosR V (nI i41))]) ⟨hx, hb, hml, hown, hts⟩ (c_X4_ofTeam l g a b V (nI i41) 0 (by omega)) (cwV 2 hts gL_areRanks_X4_ofTeam rfl rfl rfl (by decide +kernel) ⟨Nat.le_of_ble_eq_true rfl, Nat.le_of_ble_eq_true rfl⟩) q_B_blind (va_recv hK hP (ci := 3) (q0 := 0) rfl rfl) (q_B_of hP hK hN) rfl hl.1 rfl (Nat.le_of_ble_eq_true rfl) dL_areRanks_239 (Nat.zero_le _) (Nat.zero_le _) ?_
                          refine lv_icmp_lt (tgt := 270) hx hb dL_areRanks_242 (by decide) (fun c_242 => ?_) (fun c_242 => ?_)
                          · skip
                            exact absurd c_242 (w_mgeV ho hK5 lt_i41)
                          · skip
                            refine lv_aload_n hx hb dL_areRanks_245 rfl (lv_at hl 9 rfl) ?_
                            refine lv_iload hx hb dL_areRanks_246 (lv_at hl 6 rfl) ?_
                            refine lv_iconst (v := 1) hx hb dL_areRanks_248 (by decide) ?_
                            refine q_V (As := [.int (nI i41), .int 1]) (rest := []) ⟨hx, hb, hml, hown, hts⟩ (c_X4_ofTeam l g a b V (nI i41) 1 (by omega)) (cwV 2 hts gL_areRanks_X4_ofTeam rfl rfl rfl (by decide +kernel) ⟨Nat.le_of_ble_eq_true rfl, Nat.le_of_ble_eq_true rfl⟩) q_B_blind (va_recv hK hP (ci := 3) (q0 := 0) rfl rfl) (q_B_of hP hK hN) rfl hl.1 rfl (Nat.le_of_ble_eq_true rfl) dL_areRanks_249 (Nat.zero_le _) (Nat.zero_le _) ?_
                            refine lv_iconst (v := 3) hx hb dL_areRanks_252 (by decide) ?_
                            refine lv_icmp_le (tgt := 266) hx hb dL_areRanks_253 (by decide) (fun c_253 => ?_) (fun c_253 => ?_)
                            · skip
                              refine lv_iconst (v := 1) hx hb dL_areRanks_266 (by decide) ?_
                              refine lv_goto (tgt := 271) hx hb dL_areRanks_267 (by decide) ?_
                              refine lv_istore (lv' := [(5, .int 1), (4, .int ((w_all V i41) ||| (1 <<< ((atR V (nI i41)) &&& 31)))), (3, .int ((q_acc 0 (s_paid (v_now V)) i41) + (s_paid (v_now V) i41))), (2, .int ((q_acc 0 (przS (v_now V)) i41) + (przS (v_now V) i41))), (9, .int (nI (s_n (v_now V)))), (8, .int (q_or (tie1 (v_now V) i41) (s_n (v_now V)))), (7, .int (nI (q_cnt (fun o => aheS (v_now V) o i41) (s_n (v_now V))))), (6, .int (nI i41)), (1, .int (nI (s_n (v_now V)))), (0, .ref (b 0))]) hx hb dL_areRanks_271 hl (by decide) rfl (fun ls hl => ?_)
                              refine lv_iinc (v := nI (i41 + 1)) (lv' := [(6, .int (nI (i41 + 1))), (5, .int 1), (4, .int ((w_all V i41) ||| (1 <<< ((atR V (nI i41)) &&& 31)))), (3, .int ((q_acc 0 (s_paid (v_now V)) i41) + (s_paid (v_now V) i41))), (2, .int ((q_acc 0 (przS (v_now V)) i41) + (przS (v_now V) i41))), (9, .int (nI (s_n (v_now V)))), (8, .int (q_or (tie1 (v_now V) i41) (s_n (v_now V)))), (7, .int (nI (q_cnt (fun o => aheS (v_now V) o i41) (s_n (v_now V))))), (1, .int (nI (s_n (v_now V)))), (0, .ref (b 0))]) hx hb dL_areRanks_273 hl (k := 7) rfl (nI_1 _) (by decide) rfl (fun ls hl => ?_)
                              refine lv_goto (tgt := 41) hx hb dL_areRanks_276 (by decide) ?_
                              exact ih_i41 (i41 + 1) ((w_all V i41) ||| (1 <<< ((atR V (nI i41)) &&& 31))) ((q_acc 0 (s_paid (v_now V)) i41) + (s_paid (v_now V) i41)) ((q_acc 0 (przS (v_now V)) i41) + (przS (v_now V) i41)) (rfl) (rfl) (rfl) lt_i41 (by omega) ls (lv_sub hl [0, 1, 2, 3, 4, 8, 9] rfl)
                            · skip
                              refine lv_aload_n hx hb dL_areRanks_256 rfl (lv_at hl 9 rfl) ?_
                              refine lv_iload hx hb dL_areRanks_257 (lv_at hl 6 rfl) ?_
                              refine lv_iconst (v := 2) hx hb dL_areRanks_259 (by decide) ?_
                              refine q_V (As := [.int (nI i41), .int 2]) (rest := []) ⟨hx, hb, hml, hown, hts⟩ (c_X4_ofTeam l g a b V (nI i41) 2 (by omega)) (cwV 2 hts gL_areRanks_X4_ofTeam rfl rfl rfl (by decide +kernel) ⟨Nat.le_of_ble_eq_true rfl, Nat.le_of_ble_eq_true rfl⟩) q_B_blind (va_recv hK hP (ci := 3) (q0 := 0) rfl rfl) (q_B_of hP hK hN) rfl hl.1 rfl (Nat.le_of_ble_eq_true rfl) dL_areRanks_260 (Nat.zero_le _) (Nat.zero_le _) ?_
                              refine lv_if_ne (tgt := 270) hx hb dL_areRanks_263 (by decide) (fun c_263 => ?_) (fun c_263 => ?_)
                              · skip
                                exact absurd (w_no4V hn10 lt_i41 c_253) c_263
                              · skip
                                refine lv_iconst (v := 1) hx hb dL_areRanks_266 (by decide) ?_
                                refine lv_goto (tgt := 271) hx hb dL_areRanks_267 (by decide) ?_
                                refine lv_istore (lv' := [(5, .int 1), (4, .int ((w_all V i41) ||| (1 <<< ((atR V (nI i41)) &&& 31)))), (3, .int ((q_acc 0 (s_paid (v_now V)) i41) + (s_paid (v_now V) i41))), (2, .int ((q_acc 0 (przS (v_now V)) i41) + (przS (v_now V) i41))), (9, .int (nI (s_n (v_now V)))), (8, .int (q_or (tie1 (v_now V) i41) (s_n (v_now V)))), (7, .int (nI (q_cnt (fun o => aheS (v_now V) o i41) (s_n (v_now V))))), (6, .int (nI i41)), (1, .int (nI (s_n (v_now V)))), (0, .ref (b 0))]) hx hb dL_areRanks_271 hl (by decide) rfl (fun ls hl => ?_)
                                refine lv_iinc (v := nI (i41 + 1)) (lv' := [(6, .int (nI (i41 + 1))), (5, .int 1), (4, .int ((w_all V i41) ||| (1 <<< ((atR V (nI i41)) &&& 31)))), (3, .int ((q_acc 0 (s_paid (v_now V)) i41) + (s_paid (v_now V) i41))), (2, .int ((q_acc 0 (przS (v_now V)) i41) + (przS (v_now V) i41))), (9, .int (nI (s_n (v_now V)))), (8, .int (q_or (tie1 (v_now V) i41) (s_n (v_now V)))), (7, .int (nI (q_cnt (fun o => aheS (v_now V) o i41) (s_n (v_now V))))), (1, .int (nI (s_n (v_now V)))), (0, .ref (b 0))]) hx hb dL_areRanks_273 hl (k := 7) rfl (nI_1 _) (by decide) rfl (fun ls hl => ?_)
                                refine lv_goto (tgt := 41) hx hb dL_areRanks_276 (by decide) ?_
                                exact ih_i41 (i41 + 1) ((w_all V i41) ||| (1 <<< ((atR V (nI i41)) &&& 31))) ((q_acc 0 (s_paid (v_now V)) i41) + (s_paid (v_now V) i41)) ((q_acc 0 (przS (v_now V)) i41) + (przS (v_now V) i41)) (rfl) (rfl) (rfl) lt_i41 (by omega) ls (lv_sub hl [0, 1, 2, 3, 4, 8, 9] rfl)
                        · skip
                          refine lv_aload_n hx hb dL_areRanks_202 rfl (lv_at hl 9 rfl) ?_
                          refine lv_aload_n hx hb dL_areRanks_203 rfl (lv_at hl 9 rfl) ?_
                          refine lv_iload hx hb dL_areRanks_204 (lv_at hl 6 rfl) ?_
                          refine q_V (As := [.int (nI i41)]) (rest := [.ref (b 0)]) ⟨hx, hb, hml, hown, hts⟩ (c_X4_at l g a b V (nI i41) (by omega)) (cwV 1 hts gL_areRanks_X4_at rfl rfl rfl (by decide +kernel) ⟨Nat.le_of_ble_eq_true rfl, Nat.le_of_ble_eq_true rfl⟩) q_B_blind (va_recv hK hP (ci := 3) (q0 := 0) rfl rfl) (q_B_of hP hK hN) rfl hl.1 rfl (Nat.le_of_ble_eq_true rfl) dL_areRanks_206 (Nat.zero_le _) (Nat.zero_le _) ?_
                          refine lv_iconst (v := 1) hx hb dL_areRanks_209 (by decide) ?_
                          refine q_V (As := [.int (atR V (nI i41)), .int 1]) (rest := []) ⟨hx, hb, hml, hown, hts⟩ (c_X4_ofTeam l g a b V (atR V (nI i41)) 1 (by omega)) (cwV 2 hts gL_areRanks_X4_ofTeam rfl rfl rfl (by decide +kernel) ⟨Nat.le_of_ble_eq_true rfl, Nat.le_of_ble_eq_true rfl⟩) q_B_blind (va_recv hK hP (ci := 3) (q0 := 0) rfl rfl) (q_B_of hP hK hN) rfl hl.1 rfl (Nat.le_of_ble_eq_true rfl) dL_areRanks_210 (Nat.zero_le _) (Nat.zero_le _) ?_
                          refine lv_aload_n hx hb dL_areRanks_213 rfl (lv_at hl 9 rfl) ?_
                          refine lv_aload_n hx hb dL_areRanks_214 rfl (lv_at hl 9 rfl) ?_
                          refine lv_iload hx hb dL_areRanks_215 (lv_at hl 6 rfl) ?_
                          refine lv_iconst (v := 1) hx hb dL_areRanks_217 (by decide) ?_
                          refine lv_isub hx hb dL_areRanks_218 ?_
                          refine q_V (As := [.int ((nI i41) - 1)]) (rest := [.ref (b 0), .int (oftR V (atR V (nI i41)) 1)]) ⟨hx, hb, hml, hown, hts⟩ (c_X4_at l g a b V ((nI i41) - 1) (by omega)) (cwV 1 hts gL_areRanks_X4_at rfl rfl rfl (by decide +kernel) ⟨Nat.le_of_ble_eq_true rfl, Nat.le_of_ble_eq_true rfl⟩) q_B_blind (va_recv hK hP (ci := 3) (q0 := 0) rfl rfl) (q_B_of hP hK hN) rfl hl.1 rfl (Nat.le_of_ble_eq_true rfl) dL_areRanks_219 (Nat.zero_le _) (Nat.zero_le _) ?_
                          refine lv_iconst (v := 1) hx hb dL_areRanks_222 (by decide) ?_
                          refine q_V (As := [.int (atR V ((nI i41) - 1)), .int 1]) (rest := [.int (oftR V (atR V (nI i41)) 1)]) ⟨hx, hb, hml, hown, hts⟩ (c_X4_ofTeam l g a b V (atR V ((nI i41) - 1)) 1 (by omega)) (cwV 2 hts gL_areRanks_X4_ofTeam rfl rfl rfl (by decide +kernel) ⟨Nat.le_of_ble_eq_true rfl, Nat.le_of_ble_eq_true rfl⟩) q_B_blind (va_recv hK hP (ci := 3) (q0 := 0) rfl rfl) (q_B_of hP hK hN) rfl hl.1 rfl (Nat.le_of_ble_eq_true rfl) dL_areRanks_223 (Nat.zero_le _) (Nat.zero_le _) ?_
                          refine lv_icmp_lt (tgt := 270) hx hb dL_areRanks_226 (by decide) (fun c_226 => ?_) (fun c_226 => ?_)
                          · skip
                            exact absurd c_226 (w_ord ho hK5 c_199 lt_i41)
                          · skip
                            refine lv_aload_n hx hb dL_areRanks_229 rfl (lv_at hl 9 rfl) ?_
                            refine lv_iload hx hb dL_areRanks_230 (lv_at hl 6 rfl) ?_
                            refine q_V (As := [.int (nI i41)]) (rest := []) ⟨hx, hb, hml, hown, hts⟩ (c_X4_most l g a b V (nI i41) (by omega)) (cwV 1 hts gL_areRanks_X4_most rfl rfl rfl (by decide +kernel) ⟨Nat.le_of_ble_eq_true rfl, Nat.le_of_ble_eq_true rfl⟩) q_B_blind (va_recv hK hP (ci := 3) (q0 := 0) rfl rfl) (q_B_of hP hK hN) rfl hl.1 rfl (Nat.le_of_ble_eq_true rfl) dL_areRanks_232 (Nat.zero_le _) (Nat.zero_le _) ?_
                            refine lv_aload_n hx hb dL_areRanks_235 rfl (lv_at hl 9 rfl) ?_
                            refine lv_iload hx hb dL_areRanks_236 (lv_at hl 6 rfl) ?_
                            refine lv_iconst (v := 0) hx hb dL_areRanks_238 (by decide) ?_
                            refine q_V (As := [.int (nI i41), .int 0]) (rest := [.int (mosR V (nI i41))]) ⟨hx, hb, hml, hown, hts⟩ (c_X4_ofTeam l g a b V (nI i41) 0 (by omega)) (cwV 2 hts gL_areRanks_X4_ofTeam rfl rfl rfl (by decide +kernel) ⟨Nat.le_of_ble_eq_true rfl, Nat.le_of_ble_eq_true rfl⟩) q_B_blind (va_recv hK hP (ci := 3) (q0 := 0) rfl rfl) (q_B_of hP hK hN) rfl hl.1 rfl (Nat.le_of_ble_eq_true rfl) dL_areRanks_239 (Nat.zero_le _) (Nat.zero_le _) ?_
                            refine lv_icmp_lt (tgt := 270) hx hb dL_areRanks_242 (by decide) (fun c_242 => ?_) (fun c_242 => ?_)
                            · skip
                              exact absurd c_242 (w_mgeV ho hK5 lt_i41)
                            · skip
                              refine lv_aload_n hx hb dL_areRanks_245 rfl (lv_at hl 9 rfl) ?_
                              refine lv_iload hx hb dL_areRanks_246 (lv_at hl 6 rfl) ?_
                              refine lv_iconst (v := 1) hx hb dL_areRanks_248 (by decide) ?_
                              refine q_V (As := [.int (nI i41), .int 1]) (rest := []) ⟨hx, hb, hml, hown, hts⟩ (c_X4_ofTeam l g a b V (nI i41) 1 (by omega)) (cwV 2 hts gL_areRanks_X4_ofTeam rfl rfl rfl (by decide +kernel) ⟨Nat.le_of_ble_eq_true rfl, Nat.le_of_ble_eq_true rfl⟩) q_B_blind (va_recv hK hP (ci := 3) (q0 := 0) rfl rfl) (q_B_of hP hK hN) rfl hl.1 rfl (Nat.le_of_ble_eq_true rfl) dL_areRanks_249 (Nat.zero_le _) (Nat.zero_le _) ?_
                              refine lv_iconst (v := 3) hx hb dL_areRanks_252 (by decide) ?_
                              refine lv_icmp_le (tgt := 266) hx hb dL_areRanks_253 (by decide) (fun c_253 => ?_) (fun c_253 => ?_)
                              · skip
                                refine lv_iconst (v := 1) hx hb dL_areRanks_266 (by decide) ?_
                                refine lv_goto (tgt := 271) hx hb dL_areRanks_267 (by decide) ?_
                                refine lv_istore (lv' := [(5, .int 1), (4, .int ((w_all V i41) ||| (1 <<< ((atR V (nI i41)) &&& 31)))), (3, .int ((q_acc 0 (s_paid (v_now V)) i41) + (s_paid (v_now V) i41))), (2, .int ((q_acc 0 (przS (v_now V)) i41) + (przS (v_now V) i41))), (9, .int (nI (s_n (v_now V)))), (8, .int (q_or (tie1 (v_now V) i41) (s_n (v_now V)))), (7, .int (nI (q_cnt (fun o => aheS (v_now V) o i41) (s_n (v_now V))))), (6, .int (nI i41)), (1, .int (nI (s_n (v_now V)))), (0, .ref (b 0))]) hx hb dL_areRanks_271 hl (by decide) rfl (fun ls hl => ?_)
                                refine lv_iinc (v := nI (i41 + 1)) (lv' := [(6, .int (nI (i41 + 1))), (5, .int 1), (4, .int ((w_all V i41) ||| (1 <<< ((atR V (nI i41)) &&& 31)))), (3, .int ((q_acc 0 (s_paid (v_now V)) i41) + (s_paid (v_now V) i41))), (2, .int ((q_acc 0 (przS (v_now V)) i41) + (przS (v_now V) i41))), (9, .int (nI (s_n (v_now V)))), (8, .int (q_or (tie1 (v_now V) i41) (s_n (v_now V)))), (7, .int (nI (q_cnt (fun o => aheS (v_now V) o i41) (s_n (v_now V))))), (1, .int (nI (s_n (v_now V)))), (0, .ref (b 0))]) hx hb dL_areRanks_273 hl (k := 7) rfl (nI_1 _) (by decide) rfl (fun ls hl => ?_)
                                refine lv_goto (tgt := 41) hx hb dL_areRanks_276 (by decide) ?_
                                exact ih_i41 (i41 + 1) ((w_all V i41) ||| (1 <<< ((atR V (nI i41)) &&& 31))) ((q_acc 0 (s_paid (v_now V)) i41) + (s_paid (v_now V) i41)) ((q_acc 0 (przS (v_now V)) i41) + (przS (v_now V) i41)) (rfl) (rfl) (rfl) lt_i41 (by omega) ls (lv_sub hl [0, 1, 2, 3, 4, 8, 9] rfl)
                              · skip
                                refine lv_aload_n hx hb dL_areRanks_256 rfl (lv_at hl 9 rfl) ?_
                                refine lv_iload hx hb dL_areRanks_257 (lv_at hl 6 rfl) ?_
                                refine lv_iconst (v := 2) hx hb dL_areRanks_259 (by decide) ?_
                                refine q_V (As := [.int (nI i41), .int 2]) (rest := []) ⟨hx, hb, hml, hown, hts⟩ (c_X4_ofTeam l g a b V (nI i41) 2 (by omega)) (cwV 2 hts gL_areRanks_X4_ofTeam rfl rfl rfl (by decide +kernel) ⟨Nat.le_of_ble_eq_true rfl, Nat.le_of_ble_eq_true rfl⟩) q_B_blind (va_recv hK hP (ci := 3) (q0 := 0) rfl rfl) (q_B_of hP hK hN) rfl hl.1 rfl (Nat.le_of_ble_eq_true rfl) dL_areRanks_260 (Nat.zero_le _) (Nat.zero_le _) ?_
                                refine lv_if_ne (tgt := 270) hx hb dL_areRanks_263 (by decide) (fun c_263 => ?_) (fun c_263 => ?_)
                                · skip
                                  exact absurd (w_no4V hn10 lt_i41 c_253) c_263
                                · skip
                                  refine lv_iconst (v := 1) hx hb dL_areRanks_266 (by decide) ?_
                                  refine lv_goto (tgt := 271) hx hb dL_areRanks_267 (by decide) ?_
                                  refine lv_istore (lv' := [(5, .int 1), (4, .int ((w_all V i41) ||| (1 <<< ((atR V (nI i41)) &&& 31)))), (3, .int ((q_acc 0 (s_paid (v_now V)) i41) + (s_paid (v_now V) i41))), (2, .int ((q_acc 0 (przS (v_now V)) i41) + (przS (v_now V) i41))), (9, .int (nI (s_n (v_now V)))), (8, .int (q_or (tie1 (v_now V) i41) (s_n (v_now V)))), (7, .int (nI (q_cnt (fun o => aheS (v_now V) o i41) (s_n (v_now V))))), (6, .int (nI i41)), (1, .int (nI (s_n (v_now V)))), (0, .ref (b 0))]) hx hb dL_areRanks_271 hl (by decide) rfl (fun ls hl => ?_)
                                  refine lv_iinc (v := nI (i41 + 1)) (lv' := [(6, .int (nI (i41 + 1))), (5, .int 1), (4, .int ((w_all V i41) ||| (1 <<< ((atR V (nI i41)) &&& 31)))), (3, .int ((q_acc 0 (s_paid (v_now V)) i41) + (s_paid (v_now V) i41))), (2, .int ((q_acc 0 (przS (v_now V)) i41) + (przS (v_now V) i41))), (9, .int (nI (s_n (v_now V)))), (8, .int (q_or (tie1 (v_now V) i41) (s_n (v_now V)))), (7, .int (nI (q_cnt (fun o => aheS (v_now V) o i41) (s_n (v_now V))))), (1, .int (nI (s_n (v_now V)))), (0, .ref (b 0))]) hx hb dL_areRanks_273 hl (k := 7) rfl (nI_1 _) (by decide) rfl (fun ls hl => ?_)
                                  refine lv_goto (tgt := 41) hx hb dL_areRanks_276 (by decide) ?_
                                  exact ih_i41 (i41 + 1) ((w_all V i41) ||| (1 <<< ((atR V (nI i41)) &&& 31))) ((q_acc 0 (s_paid (v_now V)) i41) + (s_paid (v_now V) i41)) ((q_acc 0 (przS (v_now V)) i41) + (przS (v_now V) i41)) (rfl) (rfl) (rfl) lt_i41 (by omega) ls (lv_sub hl [0, 1, 2, 3, 4, 8, 9] rfl)
                  · skip
                    have lt_i61 : i61 < s_n (v_now V) := q_ge_F (by omega) hi_i61 c_64
                    refine lv_iload hx hb dL_areRanks_67 (lv_at hl 2 rfl) ?_
                    refine lv_aload_n hx hb dL_areRanks_69 rfl (lv_at hl 9 rfl) ?_
                    refine lv_iload hx hb dL_areRanks_70 (lv_at hl 0 rfl) ?_
                    refine lv_iload hx hb dL_areRanks_72 (lv_at hl 3 rfl) ?_
                    refine q_S (As := [.ref (b 0), .int (nI i61), .int (nI i41)]) (rest := [.int (nI (q_cnt (fun o => aheS (v_now V) o i41) i61))]) ⟨hx, hb, hml, hown, hts⟩ (c_L_isAhead l g a b V K hv hK5 i61 i41 (by omega) (by omega)) (va_cwS 3 hts gL_areRanks_L_isAhead rfl rfl rfl (by decide +kernel) ⟨Nat.le_of_ble_eq_true rfl, Nat.le_of_ble_eq_true rfl⟩) q_B_blind (q_B_of hP hK hN) rfl hl.1 rfl (Nat.le_of_ble_eq_true rfl) dL_areRanks_74 (Nat.zero_le _) (Nat.zero_le _) ?_
                    refine lv_if_eq (tgt := 84) hx hb dL_areRanks_77 (by decide) (fun c_77 => ?_) (fun c_77 => ?_)
                    · skip
                      have c_77 : (aheS (v_now V) i61 i41) = false := bI_eq c_77
                      refine lv_iconst (v := 0) hx hb dL_areRanks_84 (by decide) ?_
                      refine lv_iadd hx hb dL_areRanks_85 ?_
                      refine lv_istore (lv' := [(7, .int ((nI (q_cnt (fun o => aheS (v_now V) o i41) i61)) + 0)), (9, .int (nI i61)), (8, .int (q_or (tie1 (v_now V) i41) i61)), (6, .int (nI i41)), (5, .int 1), (4, .int (w_all V i41)), (3, .int (q_acc 0 (s_paid (v_now V)) i41)), (2, .int (q_acc 0 (przS (v_now V)) i41)), (1, .int (nI (s_n (v_now V)))), (0, .ref (b 0))]) hx hb dL_areRanks_86 hl (by decide) rfl (fun ls hl => ?_)
                      refine lv_iload hx hb dL_areRanks_88 (lv_at hl 2 rfl) ?_
                      refine lv_iload hx hb dL_areRanks_90 (lv_at hl 1 rfl) ?_
                      refine lv_iload hx hb dL_areRanks_92 (lv_at hl 3 rfl) ?_
                      refine lv_icmp_eq (tgt := 126) hx hb dL_areRanks_94 (by decide) (fun c_94 => ?_) (fun c_94 => ?_)
                      · skip
                        refine lv_iconst (v := 0) hx hb dL_areRanks_126 (by decide) ?_
                        refine lv_ior hx hb dL_areRanks_127 ?_
                        refine lv_istore (lv' := [(8, .int ((q_or (tie1 (v_now V) i41) i61) ||| 0)), (7, .int ((nI (q_cnt (fun o => aheS (v_now V) o i41) i61)) + 0)), (9, .int (nI i61)), (6, .int (nI i41)), (5, .int 1), (4, .int (w_all V i41)), (3, .int (q_acc 0 (s_paid (v_now V)) i41)), (2, .int (q_acc 0 (przS (v_now V)) i41)), (1, .int (nI (s_n (v_now V)))), (0, .ref (b 0))]) hx hb dL_areRanks_128 hl (by decide) rfl (fun ls hl => ?_)
                        refine lv_iinc (v := nI (i61 + 1)) (lv' := [(9, .int (nI (i61 + 1))), (8, .int ((q_or (tie1 (v_now V) i41) i61) ||| 0)), (7, .int ((nI (q_cnt (fun o => aheS (v_now V) o i41) i61)) + 0)), (6, .int (nI i41)), (5, .int 1), (4, .int (w_all V i41)), (3, .int (q_acc 0 (s_paid (v_now V)) i41)), (2, .int (q_acc 0 (przS (v_now V)) i41)), (1, .int (nI (s_n (v_now V)))), (0, .ref (b 0))]) hx hb dL_areRanks_130 hl (k := 2) rfl (nI_1 _) (by decide) rfl (fun ls hl => ?_)
                        refine lv_goto (tgt := 61) hx hb dL_areRanks_133 (by decide) ?_
                        exact ih_i61 (i61 + 1) ((q_or (tie1 (v_now V) i41) i61) ||| 0) ((nI (q_cnt (fun o => aheS (v_now V) o i41) i61)) + 0) (by simp [q_cnt, q_or, tie1, nI_1, Int32.add_zero, c_19, c_28, c_77, c_94]) (by simp [q_cnt, q_or, tie1, nI_1, Int32.add_zero, c_19, c_28, c_77, c_94]) lt_i61 (by omega) ls (lv_sub hl [0, 1, 2, 3, 4, 5, 6, 7, 8, 9] rfl)
                      · skip
                        refine lv_aload_n hx hb dL_areRanks_97 rfl (lv_at hl 9 rfl) ?_
                        refine lv_iload hx hb dL_areRanks_98 (lv_at hl 1 rfl) ?_
                        refine lv_iload hx hb dL_areRanks_100 (lv_at hl 3 rfl) ?_
                        refine q_S (As := [.ref (b 0), .int (nI i61), .int (nI i41)]) (rest := [.int (q_or (tie1 (v_now V) i41) i61)]) ⟨hx, hb, hml, hown, hts⟩ (c_L_isAhead l g a b V K hv hK5 i61 i41 (by omega) (by omega)) (va_cwS 3 hts gL_areRanks_L_isAhead rfl rfl rfl (by decide +kernel) ⟨Nat.le_of_ble_eq_true rfl, Nat.le_of_ble_eq_true rfl⟩) q_B_blind (q_B_of hP hK hN) rfl hl.1 rfl (Nat.le_of_ble_eq_true rfl) dL_areRanks_102 (Nat.zero_le _) (Nat.zero_le _) ?_
                        refine lv_if_ne (tgt := 126) hx hb dL_areRanks_105 (by decide) (fun c_105 => ?_) (fun c_105 => ?_)
                        · skip
                          have c_105 : (aheS (v_now V) i61 i41) = true := bI_ne c_105
                          exact absurd (c_77.symm.trans c_105) (by decide)
                        · skip
                          refine lv_aload_n hx hb dL_areRanks_108 rfl (lv_at hl 9 rfl) ?_
                          refine lv_iload hx hb dL_areRanks_109 (lv_at hl 3 rfl) ?_
                          refine lv_iload hx hb dL_areRanks_111 (lv_at hl 1 rfl) ?_
                          refine q_S (As := [.ref (b 0), .int (nI i41), .int (nI i61)]) (rest := [.int (q_or (tie1 (v_now V) i41) i61)]) ⟨hx, hb, hml, hown, hts⟩ (c_L_isAhead l g a b V K hv hK5 i41 i61 (by omega) (by omega)) (va_cwS 3 hts gL_areRanks_L_isAhead rfl rfl rfl (by decide +kernel) ⟨Nat.le_of_ble_eq_true rfl, Nat.le_of_ble_eq_true rfl⟩) q_B_blind (q_B_of hP hK hN) rfl hl.1 rfl (Nat.le_of_ble_eq_true rfl) dL_areRanks_113 (Nat.zero_le _) (Nat.zero_le _) ?_
                          refine lv_if_ne (tgt := 126) hx hb dL_areRanks_116 (by decide) (fun c_116 => ?_) (fun c_116 => ?_)
                          · skip
                            have c_116 : (aheS (v_now V) i41 i61) = true := bI_ne c_116
                            refine lv_iconst (v := 0) hx hb dL_areRanks_126 (by decide) ?_
                            refine lv_ior hx hb dL_areRanks_127 ?_
                            refine lv_istore (lv' := [(8, .int ((q_or (tie1 (v_now V) i41) i61) ||| 0)), (7, .int ((nI (q_cnt (fun o => aheS (v_now V) o i41) i61)) + 0)), (9, .int (nI i61)), (6, .int (nI i41)), (5, .int 1), (4, .int (w_all V i41)), (3, .int (q_acc 0 (s_paid (v_now V)) i41)), (2, .int (q_acc 0 (przS (v_now V)) i41)), (1, .int (nI (s_n (v_now V)))), (0, .ref (b 0))]) hx hb dL_areRanks_128 hl (by decide) rfl (fun ls hl => ?_)
                            refine lv_iinc (v := nI (i61 + 1)) (lv' := [(9, .int (nI (i61 + 1))), (8, .int ((q_or (tie1 (v_now V) i41) i61) ||| 0)), (7, .int ((nI (q_cnt (fun o => aheS (v_now V) o i41) i61)) + 0)), (6, .int (nI i41)), (5, .int 1), (4, .int (w_all V i41)), (3, .int (q_acc 0 (s_paid (v_now V)) i41)), (2, .int (q_acc 0 (przS (v_now V)) i41)), (1, .int (nI (s_n (v_now V)))), (0, .ref (b 0))]) hx hb dL_areRanks_130 hl (k := 2) rfl (nI_1 _) (by decide) rfl (fun ls hl => ?_)
                            refine lv_goto (tgt := 61) hx hb dL_areRanks_133 (by decide) ?_
                            exact ih_i61 (i61 + 1) ((q_or (tie1 (v_now V) i41) i61) ||| 0) ((nI (q_cnt (fun o => aheS (v_now V) o i41) i61)) + 0) (by simp [q_cnt, q_or, tie1, nI_1, Int32.add_zero, c_19, c_28, c_77, c_94, c_116]) (by simp [q_cnt, q_or, tie1, nI_1, Int32.add_zero, c_19, c_28, c_77, c_94, c_116]) lt_i61 (by omega) ls (lv_sub hl [0, 1, 2, 3, 4, 5, 6, 7, 8, 9] rfl)
                          · skip
                            have c_116 : (aheS (v_now V) i41 i61) = false := bI_eq c_116
                            refine lv_iconst (v := 1) hx hb dL_areRanks_119 (by decide) ?_
                            refine lv_iload hx hb dL_areRanks_120 (lv_at hl 1 rfl) ?_
                            refine lv_ishl hx hb dL_areRanks_122 ?_
                            refine lv_goto (tgt := 127) hx hb dL_areRanks_123 (by decide) ?_
                            refine lv_ior hx hb dL_areRanks_127 ?_
                            refine lv_istore (lv' := [(8, .int ((q_or (tie1 (v_now V) i41) i61) ||| (1 <<< ((nI i61) &&& 31)))), (7, .int ((nI (q_cnt (fun o => aheS (v_now V) o i41) i61)) + 0)), (9, .int (nI i61)), (6, .int (nI i41)), (5, .int 1), (4, .int (w_all V i41)), (3, .int (q_acc 0 (s_paid (v_now V)) i41)), (2, .int (q_acc 0 (przS (v_now V)) i41)), (1, .int (nI (s_n (v_now V)))), (0, .ref (b 0))]) hx hb dL_areRanks_128 hl (by decide) rfl (fun ls hl => ?_)
                            refine lv_iinc (v := nI (i61 + 1)) (lv' := [(9, .int (nI (i61 + 1))), (8, .int ((q_or (tie1 (v_now V) i41) i61) ||| (1 <<< ((nI i61) &&& 31)))), (7, .int ((nI (q_cnt (fun o => aheS (v_now V) o i41) i61)) + 0)), (6, .int (nI i41)), (5, .int 1), (4, .int (w_all V i41)), (3, .int (q_acc 0 (s_paid (v_now V)) i41)), (2, .int (q_acc 0 (przS (v_now V)) i41)), (1, .int (nI (s_n (v_now V)))), (0, .ref (b 0))]) hx hb dL_areRanks_130 hl (k := 2) rfl (nI_1 _) (by decide) rfl (fun ls hl => ?_)
                            refine lv_goto (tgt := 61) hx hb dL_areRanks_133 (by decide) ?_
                            exact ih_i61 (i61 + 1) ((q_or (tie1 (v_now V) i41) i61) ||| (1 <<< ((nI i61) &&& 31))) ((nI (q_cnt (fun o => aheS (v_now V) o i41) i61)) + 0) (by simp [q_cnt, q_or, tie1, nI_1, Int32.add_zero, c_19, c_28, c_77, c_94, c_116]) (by simp [q_cnt, q_or, tie1, nI_1, Int32.add_zero, c_19, c_28, c_77, c_94, c_116]) lt_i61 (by omega) ls (lv_sub hl [0, 1, 2, 3, 4, 5, 6, 7, 8, 9] rfl)
                    · skip
                      have c_77 : (aheS (v_now V) i61 i41) = true := bI_ne c_77
                      refine lv_iconst (v := 1) hx hb dL_areRanks_80 (by decide) ?_
                      refine lv_goto (tgt := 85) hx hb dL_areRanks_81 (by decide) ?_
                      refine lv_iadd hx hb dL_areRanks_85 ?_
                      refine lv_istore (lv' := [(7, .int ((nI (q_cnt (fun o => aheS (v_now V) o i41) i61)) + 1)), (9, .int (nI i61)), (8, .int (q_or (tie1 (v_now V) i41) i61)), (6, .int (nI i41)), (5, .int 1), (4, .int (w_all V i41)), (3, .int (q_acc 0 (s_paid (v_now V)) i41)), (2, .int (q_acc 0 (przS (v_now V)) i41)), (1, .int (nI (s_n (v_now V)))), (0, .ref (b 0))]) hx hb dL_areRanks_86 hl (by decide) rfl (fun ls hl => ?_)
                      refine lv_iload hx hb dL_areRanks_88 (lv_at hl 2 rfl) ?_
                      refine lv_iload hx hb dL_areRanks_90 (lv_at hl 1 rfl) ?_
                      refine lv_iload hx hb dL_areRanks_92 (lv_at hl 3 rfl) ?_
                      refine lv_icmp_eq (tgt := 126) hx hb dL_areRanks_94 (by decide) (fun c_94 => ?_) (fun c_94 => ?_)
                      · skip
                        refine lv_iconst (v := 0) hx hb dL_areRanks_126 (by decide) ?_
                        refine lv_ior hx hb dL_areRanks_127 ?_
                        refine lv_istore (lv' := [(8, .int ((q_or (tie1 (v_now V) i41) i61) ||| 0)), (7, .int ((nI (q_cnt (fun o => aheS (v_now V) o i41) i61)) + 1)), (9, .int (nI i61)), (6, .int (nI i41)), (5, .int 1), (4, .int (w_all V i41)), (3, .int (q_acc 0 (s_paid (v_now V)) i41)), (2, .int (q_acc 0 (przS (v_now V)) i41)), (1, .int (nI (s_n (v_now V)))), (0, .ref (b 0))]) hx hb dL_areRanks_128 hl (by decide) rfl (fun ls hl => ?_)
                        refine lv_iinc (v := nI (i61 + 1)) (lv' := [(9, .int (nI (i61 + 1))), (8, .int ((q_or (tie1 (v_now V) i41) i61) ||| 0)), (7, .int ((nI (q_cnt (fun o => aheS (v_now V) o i41) i61)) + 1)), (6, .int (nI i41)), (5, .int 1), (4, .int (w_all V i41)), (3, .int (q_acc 0 (s_paid (v_now V)) i41)), (2, .int (q_acc 0 (przS (v_now V)) i41)), (1, .int (nI (s_n (v_now V)))), (0, .ref (b 0))]) hx hb dL_areRanks_130 hl (k := 2) rfl (nI_1 _) (by decide) rfl (fun ls hl => ?_)
                        refine lv_goto (tgt := 61) hx hb dL_areRanks_133 (by decide) ?_
                        exact ih_i61 (i61 + 1) ((q_or (tie1 (v_now V) i41) i61) ||| 0) ((nI (q_cnt (fun o => aheS (v_now V) o i41) i61)) + 1) (by simp [q_cnt, q_or, tie1, nI_1, Int32.add_zero, c_19, c_28, c_77, c_94]) (by simp [q_cnt, q_or, tie1, nI_1, Int32.add_zero, c_19, c_28, c_77, c_94]) lt_i61 (by omega) ls (lv_sub hl [0, 1, 2, 3, 4, 5, 6, 7, 8, 9] rfl)
                      · skip
                        refine lv_aload_n hx hb dL_areRanks_97 rfl (lv_at hl 9 rfl) ?_
                        refine lv_iload hx hb dL_areRanks_98 (lv_at hl 1 rfl) ?_
                        refine lv_iload hx hb dL_areRanks_100 (lv_at hl 3 rfl) ?_
                        refine q_S (As := [.ref (b 0), .int (nI i61), .int (nI i41)]) (rest := [.int (q_or (tie1 (v_now V) i41) i61)]) ⟨hx, hb, hml, hown, hts⟩ (c_L_isAhead l g a b V K hv hK5 i61 i41 (by omega) (by omega)) (va_cwS 3 hts gL_areRanks_L_isAhead rfl rfl rfl (by decide +kernel) ⟨Nat.le_of_ble_eq_true rfl, Nat.le_of_ble_eq_true rfl⟩) q_B_blind (q_B_of hP hK hN) rfl hl.1 rfl (Nat.le_of_ble_eq_true rfl) dL_areRanks_102 (Nat.zero_le _) (Nat.zero_le _) ?_
                        refine lv_if_ne (tgt := 126) hx hb dL_areRanks_105 (by decide) (fun c_105 => ?_) (fun c_105 => ?_)
                        · skip
                          refine lv_iconst (v := 0) hx hb dL_areRanks_126 (by decide) ?_
                          refine lv_ior hx hb dL_areRanks_127 ?_
                          refine lv_istore (lv' := [(8, .int ((q_or (tie1 (v_now V) i41) i61) ||| 0)), (7, .int ((nI (q_cnt (fun o => aheS (v_now V) o i41) i61)) + 1)), (9, .int (nI i61)), (6, .int (nI i41)), (5, .int 1), (4, .int (w_all V i41)), (3, .int (q_acc 0 (s_paid (v_now V)) i41)), (2, .int (q_acc 0 (przS (v_now V)) i41)), (1, .int (nI (s_n (v_now V)))), (0, .ref (b 0))]) hx hb dL_areRanks_128 hl (by decide) rfl (fun ls hl => ?_)
                          refine lv_iinc (v := nI (i61 + 1)) (lv' := [(9, .int (nI (i61 + 1))), (8, .int ((q_or (tie1 (v_now V) i41) i61) ||| 0)), (7, .int ((nI (q_cnt (fun o => aheS (v_now V) o i41) i61)) + 1)), (6, .int (nI i41)), (5, .int 1), (4, .int (w_all V i41)), (3, .int (q_acc 0 (s_paid (v_now V)) i41)), (2, .int (q_acc 0 (przS (v_now V)) i41)), (1, .int (nI (s_n (v_now V)))), (0, .ref (b 0))]) hx hb dL_areRanks_130 hl (k := 2) rfl (nI_1 _) (by decide) rfl (fun ls hl => ?_)
                          refine lv_goto (tgt := 61) hx hb dL_areRanks_133 (by decide) ?_
                          exact ih_i61 (i61 + 1) ((q_or (tie1 (v_now V) i41) i61) ||| 0) ((nI (q_cnt (fun o => aheS (v_now V) o i41) i61)) + 1) (by simp [q_cnt, q_or, tie1, nI_1, Int32.add_zero, c_19, c_28, c_77, c_94]) (by simp [q_cnt, q_or, tie1, nI_1, Int32.add_zero, c_19, c_28, c_77, c_94]) lt_i61 (by omega) ls (lv_sub hl [0, 1, 2, 3, 4, 5, 6, 7, 8, 9] rfl)
                        · skip
                          have c_105 : (aheS (v_now V) i61 i41) = false := bI_eq c_105
                          exact absurd (c_77.symm.trans c_105) (by decide)
              exact L_61 (s_n (v_now V) + 1) 0 0 0 (rfl) (rfl) (Nat.zero_le _) (by omega) ls (lv_sub hl [0, 1, 2, 3, 4, 5, 6, 7, 8, 9] rfl)
      exact L_41 (s_n (v_now V) + 1) 0 0 0 0 (rfl) (rfl) (rfl) (Nat.zero_le _) (by omega) ls (lv_sub hl [0, 1, 2, 3, 4, 5, 6] rfl)
