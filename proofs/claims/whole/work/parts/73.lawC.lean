/-! the law's cases -/
set_option maxHeartbeats 4000000 in
set_option maxRecDepth 100000 in
theorem law_ofTeam {p : Program} {l : Launch} {e : Env} {s : State} {m : MethodId} {below : List Frame} {meth : Method} {c : Code} {bs L : Nat} {xs : Nat → Int32} {g : q_G} {a : Nat → Nat → Nat} {b d : Nat → Nat} {K i : Nat} {V : q_CV} {M : q_MV} {cells slots : Nat} {Q : State → Prop} (C0 : lw_C p s m c bs L xs g a b d) (hi : i + 5 ≤ L) (hL : L ≤ 2560) (hK5 : K ≤ 512) (hr : q_rel K V M) {H : Heap} {locs : List Loc} (hS : va_S (fun q : Nat => s.heap.size ≤ q) s.heap H locs) (hP : va_P g.1 vwCl (q_pqW g a b V) H) (hM : va_P g.1 vwCl (q_mdW g d M) H) {ls : Array Slot} (hl : lv_has ls 4 [(3, .int (nI i)), (0, .ref bs), (1, .ref (b 0)), (2, .ref (d 0))]) (hc : cells ≤ 600000) (hs : slots ≤ 7302250) (kk : ∀ (V1 : q_CV) (M1 : q_MV) (H1 : Heap) (locs1 : List Loc), q_rel (K + 1) V1 M1 → va_S (fun q : Nat => s.heap.size ≤ q) s.heap H1 locs1 → va_P g.1 vwCl (q_pqW g a b V1) H1 → va_P g.1 vwCl (q_mdW g d M1) H1 → W p l e room_1 s m #[Value.ref bs] below meth c H1 locs1 cells slots Q (F0 m 870 ls [])) : W p l e room_1 s m #[Value.ref bs] below meth c H locs cells slots Q (F0 m 429 ls []) := by
  obtain ⟨hx, hb, hml, hown, hts, hX, hbl, hK, hN, hT, hI, hJ, hAa, hAd, hAx⟩ := C0
  have hbA : ¬ (fun q : Nat => s.heap.size ≤ q) bs := Nat.not_le.mpr hbl
  obtain ⟨⟨hcp, hok⟩, ⟨hpl, hln, hpd⟩, ⟨hst, hh6, hn6, hH⟩, hSl⟩ := id hr
  have hn10 := ok_n hok
  have hst6 : m_st M ≤ 6 := by omega
  refine lv_aload_n hx hb dL_law_429 rfl (lv_at hl 2 rfl) ?_
  refine lv_aload_n hx hb dL_law_430 rfl (lv_at hl 1 rfl) ?_
  refine lv_iload_n hx hb dL_law_431 rfl (lv_at hl 0 rfl) ?_
  refine lv_iconst (v := 1) hx hb dL_law_432 (by decide) ?_
  refine lv_iadd hx hb dL_law_433 ?_
  refine q_reI (show ((nI i) + 1 : Int32) = nI (i + 1) from nI_add i 1) ?_
  refine va_sld hx hb hX hbl hbA hS (vp_in_nI (by omega) (by omega)) dL_law_434 ?_
  refine q_ildj (f := xs) (by omega) ?_
  refine lv_aload_n hx hb dL_law_435 rfl (lv_at hl 1 rfl) ?_
  refine lv_iload_n hx hb dL_law_436 rfl (lv_at hl 0 rfl) ?_
  refine lv_iconst (v := 2) hx hb dL_law_437 (by decide) ?_
  refine lv_iadd hx hb dL_law_438 ?_
  refine q_reI (show ((nI i) + 2 : Int32) = nI (i + 2) from nI_add i 2) ?_
  refine va_sld hx hb hX hbl hbA hS (vp_in_nI (by omega) (by omega)) dL_law_439 ?_
  refine q_ildj (f := xs) (by omega) ?_
  refine q_V (As := [.int (xs (i + 1)), .int (xs (i + 2))]) (rest := []) ⟨hx, hb, hml, hown, hts⟩ (c_X4_ofTeam l g a b V (xs (i + 1)) (xs (i + 2)) hn10) (cwV 2 hts gL_law_X4_ofTeam rfl rfl rfl (by decide +kernel) ⟨(Nat.le_of_ble_eq_true rfl), (Nat.le_of_ble_eq_true rfl)⟩) q_B_blind (va_recv hK hP (ci := 3) (q0 := 0) rfl rfl) (q_B_of hP hK hN) rfl hl.1 rfl (Nat.le_of_ble_eq_true rfl) dL_law_440 hc hs ?_
  refine lv_aload_n hx hb dL_law_443 rfl (lv_at hl 3 rfl) ?_
  refine lv_aload_n hx hb dL_law_444 rfl (lv_at hl 1 rfl) ?_
  refine lv_iload_n hx hb dL_law_445 rfl (lv_at hl 0 rfl) ?_
  refine lv_iconst (v := 1) hx hb dL_law_446 (by decide) ?_
  refine lv_iadd hx hb dL_law_447 ?_
  refine q_reI (show ((nI i) + 1 : Int32) = nI (i + 1) from nI_add i 1) ?_
  refine va_sld hx hb hX hbl hbA hS (vp_in_nI (by omega) (by omega)) dL_law_448 ?_
  refine q_ildj (f := xs) (by omega) ?_
  refine lv_aload_n hx hb dL_law_449 rfl (lv_at hl 1 rfl) ?_
  refine lv_iload_n hx hb dL_law_450 rfl (lv_at hl 0 rfl) ?_
  refine lv_iconst (v := 2) hx hb dL_law_451 (by decide) ?_
  refine lv_iadd hx hb dL_law_452 ?_
  refine q_reI (show ((nI i) + 2 : Int32) = nI (i + 2) from nI_add i 2) ?_
  refine va_sld hx hb hX hbl hbA hS (vp_in_nI (by omega) (by omega)) dL_law_453 ?_
  refine q_ildj (f := xs) (by omega) ?_
  refine q_V (As := [.int (xs (i + 1)), .int (xs (i + 2))]) (rest := [.int (oftR V (xs (i + 1)) (xs (i + 2)))]) ⟨hx, hb, hml, hown, hts⟩ (c_X5_ofTeam l g d M V K hcp hok hK5 hpl hln hpd hst (xs (i + 1)) (xs (i + 2))) (cwV 2 hts gL_law_X5_ofTeam rfl rfl rfl (by decide +kernel) ⟨(Nat.le_of_ble_eq_true rfl), (Nat.le_of_ble_eq_true rfl)⟩) q_B_blind (va_recv hK hM (ci := 4) (q0 := 0) rfl rfl) (q_B_of hM hK hN) rfl hl.1 rfl (Nat.le_of_ble_eq_true rfl) dL_law_454 hc hs ?_
  refine lv_icmp_eq (tgt := 870) hx hb dL_law_457 (by decide) (fun _ => ?_) (fun hne => absurd rfl hne)
  exact kk _ _ _ _ (rl_up hr) hS hP hM

set_option maxHeartbeats 4000000 in
set_option maxRecDepth 100000 in
theorem law_ofRound {p : Program} {l : Launch} {e : Env} {s : State} {m : MethodId} {below : List Frame} {meth : Method} {c : Code} {bs L : Nat} {xs : Nat → Int32} {g : q_G} {a : Nat → Nat → Nat} {b d : Nat → Nat} {K i : Nat} {V : q_CV} {M : q_MV} {cells slots : Nat} {Q : State → Prop} (C0 : lw_C p s m c bs L xs g a b d) (hi : i + 5 ≤ L) (hL : L ≤ 2560) (hK5 : K ≤ 512) (hr : q_rel K V M) {H : Heap} {locs : List Loc} (hS : va_S (fun q : Nat => s.heap.size ≤ q) s.heap H locs) (hP : va_P g.1 vwCl (q_pqW g a b V) H) (hM : va_P g.1 vwCl (q_mdW g d M) H) {ls : Array Slot} (hl : lv_has ls 4 [(3, .int (nI i)), (0, .ref bs), (1, .ref (b 0)), (2, .ref (d 0))]) (hc : cells ≤ 600000) (hs : slots ≤ 7302250) (kk : ∀ (V1 : q_CV) (M1 : q_MV) (H1 : Heap) (locs1 : List Loc), q_rel (K + 1) V1 M1 → va_S (fun q : Nat => s.heap.size ≤ q) s.heap H1 locs1 → va_P g.1 vwCl (q_pqW g a b V1) H1 → va_P g.1 vwCl (q_mdW g d M1) H1 → W p l e room_1 s m #[Value.ref bs] below meth c H1 locs1 cells slots Q (F0 m 870 ls [])) : W p l e room_1 s m #[Value.ref bs] below meth c H locs cells slots Q (F0 m 462 ls []) := by
  obtain ⟨hx, hb, hml, hown, hts, hX, hbl, hK, hN, hT, hI, hJ, hAa, hAd, hAx⟩ := C0
  have hbA : ¬ (fun q : Nat => s.heap.size ≤ q) bs := Nat.not_le.mpr hbl
  obtain ⟨⟨hcp, hok⟩, ⟨hpl, hln, hpd⟩, ⟨hst, hh6, hn6, hH⟩, hSl⟩ := id hr
  have hn10 := ok_n hok
  have hst6 : m_st M ≤ 6 := by omega
  refine lv_aload_n hx hb dL_law_462 rfl (lv_at hl 2 rfl) ?_
  refine lv_aload_n hx hb dL_law_463 rfl (lv_at hl 1 rfl) ?_
  refine lv_iload_n hx hb dL_law_464 rfl (lv_at hl 0 rfl) ?_
  refine lv_iconst (v := 1) hx hb dL_law_465 (by decide) ?_
  refine lv_iadd hx hb dL_law_466 ?_
  refine q_reI (show ((nI i) + 1 : Int32) = nI (i + 1) from nI_add i 1) ?_
  refine va_sld hx hb hX hbl hbA hS (vp_in_nI (by omega) (by omega)) dL_law_467 ?_
  refine q_ildj (f := xs) (by omega) ?_
  refine lv_aload_n hx hb dL_law_468 rfl (lv_at hl 1 rfl) ?_
  refine lv_iload_n hx hb dL_law_469 rfl (lv_at hl 0 rfl) ?_
  refine lv_iconst (v := 2) hx hb dL_law_470 (by decide) ?_
  refine lv_iadd hx hb dL_law_471 ?_
  refine q_reI (show ((nI i) + 2 : Int32) = nI (i + 2) from nI_add i 2) ?_
  refine va_sld hx hb hX hbl hbA hS (vp_in_nI (by omega) (by omega)) dL_law_472 ?_
  refine q_ildj (f := xs) (by omega) ?_
  refine q_V (As := [.int (xs (i + 1)), .int (xs (i + 2))]) (rest := []) ⟨hx, hb, hml, hown, hts⟩ (c_X4_ofRound l g a b V (xs (i + 1)) (xs (i + 2)) hn10) (cwV 2 hts gL_law_X4_ofRound rfl rfl rfl (by decide +kernel) ⟨(Nat.le_of_ble_eq_true rfl), (Nat.le_of_ble_eq_true rfl)⟩) q_B_blind (va_recv hK hP (ci := 3) (q0 := 0) rfl rfl) (q_B_of hP hK hN) rfl hl.1 rfl (Nat.le_of_ble_eq_true rfl) dL_law_473 hc hs ?_
  refine lv_aload_n hx hb dL_law_476 rfl (lv_at hl 3 rfl) ?_
  refine lv_aload_n hx hb dL_law_477 rfl (lv_at hl 1 rfl) ?_
  refine lv_iload_n hx hb dL_law_478 rfl (lv_at hl 0 rfl) ?_
  refine lv_iconst (v := 1) hx hb dL_law_479 (by decide) ?_
  refine lv_iadd hx hb dL_law_480 ?_
  refine q_reI (show ((nI i) + 1 : Int32) = nI (i + 1) from nI_add i 1) ?_
  refine va_sld hx hb hX hbl hbA hS (vp_in_nI (by omega) (by omega)) dL_law_481 ?_
  refine q_ildj (f := xs) (by omega) ?_
  refine lv_aload_n hx hb dL_law_482 rfl (lv_at hl 1 rfl) ?_
  refine lv_iload_n hx hb dL_law_483 rfl (lv_at hl 0 rfl) ?_
  refine lv_iconst (v := 2) hx hb dL_law_484 (by decide) ?_
  refine lv_iadd hx hb dL_law_485 ?_
  refine q_reI (show ((nI i) + 2 : Int32) = nI (i + 2) from nI_add i 2) ?_
  refine va_sld hx hb hX hbl hbA hS (vp_in_nI (by omega) (by omega)) dL_law_486 ?_
  refine q_ildj (f := xs) (by omega) ?_
  refine q_V (As := [.int (xs (i + 1)), .int (xs (i + 2))]) (rest := [.int (ofrR V (xs (i + 1)) (xs (i + 2)))]) ⟨hx, hb, hml, hown, hts⟩ (c_X5_ofRound l g d M V K hcp hok hK5 hpl hln hpd hst (xs (i + 1)) (xs (i + 2))) (cwV 2 hts gL_law_X5_ofRound rfl rfl rfl (by decide +kernel) ⟨(Nat.le_of_ble_eq_true rfl), (Nat.le_of_ble_eq_true rfl)⟩) q_B_blind (va_recv hK hM (ci := 4) (q0 := 0) rfl rfl) (q_B_of hM hK hN) rfl hl.1 rfl (Nat.le_of_ble_eq_true rfl) dL_law_487 hc hs ?_
  refine lv_icmp_eq (tgt := 870) hx hb dL_law_490 (by decide) (fun _ => ?_) (fun hne => absurd rfl hne)
  exact kk _ _ _ _ (rl_up hr) hS hP hM

set_option maxHeartbeats 4000000 in
set_option maxRecDepth 100000 in
theorem law_sheet {p : Program} {l : Launch} {e : Env} {s : State} {m : MethodId} {below : List Frame} {meth : Method} {c : Code} {bs L : Nat} {xs : Nat → Int32} {g : q_G} {a : Nat → Nat → Nat} {b d : Nat → Nat} {K i : Nat} {V : q_CV} {M : q_MV} {cells slots : Nat} {Q : State → Prop} (C0 : lw_C p s m c bs L xs g a b d) (hi : i + 5 ≤ L) (hL : L ≤ 2560) (hK5 : K ≤ 512) (hr : q_rel K V M) {H : Heap} {locs : List Loc} (hS : va_S (fun q : Nat => s.heap.size ≤ q) s.heap H locs) (hP : va_P g.1 vwCl (q_pqW g a b V) H) (hM : va_P g.1 vwCl (q_mdW g d M) H) {ls : Array Slot} (hl : lv_has ls 4 [(3, .int (nI i)), (0, .ref bs), (1, .ref (b 0)), (2, .ref (d 0))]) (hc : cells ≤ 600000) (hs : slots ≤ 7302250) (kk : ∀ (V1 : q_CV) (M1 : q_MV) (H1 : Heap) (locs1 : List Loc), q_rel (K + 1) V1 M1 → va_S (fun q : Nat => s.heap.size ≤ q) s.heap H1 locs1 → va_P g.1 vwCl (q_pqW g a b V1) H1 → va_P g.1 vwCl (q_mdW g d M1) H1 → W p l e room_1 s m #[Value.ref bs] below meth c H1 locs1 cells slots Q (F0 m 870 ls [])) : W p l e room_1 s m #[Value.ref bs] below meth c H locs cells slots Q (F0 m 495 ls []) := by
  obtain ⟨hx, hb, hml, hown, hts, hX, hbl, hK, hN, hT, hI, hJ, hAa, hAd, hAx⟩ := C0
  have hbA : ¬ (fun q : Nat => s.heap.size ≤ q) bs := Nat.not_le.mpr hbl
  obtain ⟨⟨hcp, hok⟩, ⟨hpl, hln, hpd⟩, ⟨hst, hh6, hn6, hH⟩, hSl⟩ := id hr
  have hn10 := ok_n hok
  have hst6 : m_st M ≤ 6 := by omega
  refine lv_aload_n hx hb dL_law_495 rfl (lv_at hl 2 rfl) ?_
  refine lv_aload_n hx hb dL_law_496 rfl (lv_at hl 1 rfl) ?_
  refine lv_iload_n hx hb dL_law_497 rfl (lv_at hl 0 rfl) ?_
  refine lv_iconst (v := 1) hx hb dL_law_498 (by decide) ?_
  refine lv_iadd hx hb dL_law_499 ?_
  refine q_reI (show ((nI i) + 1 : Int32) = nI (i + 1) from nI_add i 1) ?_
  refine va_sld hx hb hX hbl hbA hS (vp_in_nI (by omega) (by omega)) dL_law_500 ?_
  refine q_ildj (f := xs) (by omega) ?_
  refine lv_aload_n hx hb dL_law_501 rfl (lv_at hl 1 rfl) ?_
  refine lv_iload_n hx hb dL_law_502 rfl (lv_at hl 0 rfl) ?_
  refine lv_iconst (v := 2) hx hb dL_law_503 (by decide) ?_
  refine lv_iadd hx hb dL_law_504 ?_
  refine q_reI (show ((nI i) + 2 : Int32) = nI (i + 2) from nI_add i 2) ?_
  refine va_sld hx hb hX hbl hbA hS (vp_in_nI (by omega) (by omega)) dL_law_505 ?_
  refine q_ildj (f := xs) (by omega) ?_
  refine lv_aload_n hx hb dL_law_506 rfl (lv_at hl 1 rfl) ?_
  refine lv_iload_n hx hb dL_law_507 rfl (lv_at hl 0 rfl) ?_
  refine lv_iconst (v := 3) hx hb dL_law_508 (by decide) ?_
  refine lv_iadd hx hb dL_law_509 ?_
  refine q_reI (show ((nI i) + 3 : Int32) = nI (i + 3) from nI_add i 3) ?_
  refine va_sld hx hb hX hbl hbA hS (vp_in_nI (by omega) (by omega)) dL_law_510 ?_
  refine q_ildj (f := xs) (by omega) ?_
  refine q_V (As := [.int (xs (i + 1)), .int (xs (i + 2)), .int (xs (i + 3))]) (rest := []) ⟨hx, hb, hml, hown, hts⟩ (c_X4_sheet l g a b V (xs (i + 1)) (xs (i + 2)) (xs (i + 3)) hn10) (cwV 3 hts gL_law_X4_sheet rfl rfl rfl (by decide +kernel) ⟨(Nat.le_of_ble_eq_true rfl), (Nat.le_of_ble_eq_true rfl)⟩) q_B_blind (va_recv hK hP (ci := 3) (q0 := 0) rfl rfl) (q_B_of hP hK hN) rfl hl.1 rfl (Nat.le_of_ble_eq_true rfl) dL_law_511 hc hs ?_
  refine lv_aload_n hx hb dL_law_514 rfl (lv_at hl 3 rfl) ?_
  refine lv_aload_n hx hb dL_law_515 rfl (lv_at hl 1 rfl) ?_
  refine lv_iload_n hx hb dL_law_516 rfl (lv_at hl 0 rfl) ?_
  refine lv_iconst (v := 1) hx hb dL_law_517 (by decide) ?_
  refine lv_iadd hx hb dL_law_518 ?_
  refine q_reI (show ((nI i) + 1 : Int32) = nI (i + 1) from nI_add i 1) ?_
  refine va_sld hx hb hX hbl hbA hS (vp_in_nI (by omega) (by omega)) dL_law_519 ?_
  refine q_ildj (f := xs) (by omega) ?_
  refine lv_aload_n hx hb dL_law_520 rfl (lv_at hl 1 rfl) ?_
  refine lv_iload_n hx hb dL_law_521 rfl (lv_at hl 0 rfl) ?_
  refine lv_iconst (v := 2) hx hb dL_law_522 (by decide) ?_
  refine lv_iadd hx hb dL_law_523 ?_
  refine q_reI (show ((nI i) + 2 : Int32) = nI (i + 2) from nI_add i 2) ?_
  refine va_sld hx hb hX hbl hbA hS (vp_in_nI (by omega) (by omega)) dL_law_524 ?_
  refine q_ildj (f := xs) (by omega) ?_
  refine lv_aload_n hx hb dL_law_525 rfl (lv_at hl 1 rfl) ?_
  refine lv_iload_n hx hb dL_law_526 rfl (lv_at hl 0 rfl) ?_
  refine lv_iconst (v := 3) hx hb dL_law_527 (by decide) ?_
  refine lv_iadd hx hb dL_law_528 ?_
  refine q_reI (show ((nI i) + 3 : Int32) = nI (i + 3) from nI_add i 3) ?_
  refine va_sld hx hb hX hbl hbA hS (vp_in_nI (by omega) (by omega)) dL_law_529 ?_
  refine q_ildj (f := xs) (by omega) ?_
  refine q_V (As := [.int (xs (i + 1)), .int (xs (i + 2)), .int (xs (i + 3))]) (rest := [.int (sheR V (xs (i + 1)) (xs (i + 2)) (xs (i + 3)))]) ⟨hx, hb, hml, hown, hts⟩ (c_X5_sheet l g d M V K hcp hok hK5 hpl hln hpd hst (xs (i + 1)) (xs (i + 2)) (xs (i + 3))) (cwV 3 hts gL_law_X5_sheet rfl rfl rfl (by decide +kernel) ⟨(Nat.le_of_ble_eq_true rfl), (Nat.le_of_ble_eq_true rfl)⟩) q_B_blind (va_recv hK hM (ci := 4) (q0 := 0) rfl rfl) (q_B_of hM hK hN) rfl hl.1 rfl (Nat.le_of_ble_eq_true rfl) dL_law_530 hc hs ?_
  refine lv_icmp_eq (tgt := 870) hx hb dL_law_533 (by decide) (fun _ => ?_) (fun hne => absurd rfl hne)
  exact kk _ _ _ _ (rl_up hr) hS hP hM

set_option maxHeartbeats 4000000 in
set_option maxRecDepth 100000 in
theorem law_answer {p : Program} {l : Launch} {e : Env} {s : State} {m : MethodId} {below : List Frame} {meth : Method} {c : Code} {bs L : Nat} {xs : Nat → Int32} {g : q_G} {a : Nat → Nat → Nat} {b d : Nat → Nat} {K i : Nat} {V : q_CV} {M : q_MV} {cells slots : Nat} {Q : State → Prop} (C0 : lw_C p s m c bs L xs g a b d) (hi : i + 5 ≤ L) (hL : L ≤ 2560) (hK5 : K ≤ 512) (hr : q_rel K V M) {H : Heap} {locs : List Loc} (hS : va_S (fun q : Nat => s.heap.size ≤ q) s.heap H locs) (hP : va_P g.1 vwCl (q_pqW g a b V) H) (hM : va_P g.1 vwCl (q_mdW g d M) H) {ls : Array Slot} (hl : lv_has ls 4 [(3, .int (nI i)), (0, .ref bs), (1, .ref (b 0)), (2, .ref (d 0))]) (hc : cells ≤ 600000) (hs : slots ≤ 7302250) (kk : ∀ (V1 : q_CV) (M1 : q_MV) (H1 : Heap) (locs1 : List Loc), q_rel (K + 1) V1 M1 → va_S (fun q : Nat => s.heap.size ≤ q) s.heap H1 locs1 → va_P g.1 vwCl (q_pqW g a b V1) H1 → va_P g.1 vwCl (q_mdW g d M1) H1 → W p l e room_1 s m #[Value.ref bs] below meth c H1 locs1 cells slots Q (F0 m 870 ls [])) : W p l e room_1 s m #[Value.ref bs] below meth c H locs cells slots Q (F0 m 538 ls []) := by
  obtain ⟨hx, hb, hml, hown, hts, hX, hbl, hK, hN, hT, hI, hJ, hAa, hAd, hAx⟩ := C0
  have hbA : ¬ (fun q : Nat => s.heap.size ≤ q) bs := Nat.not_le.mpr hbl
  obtain ⟨⟨hcp, hok⟩, ⟨hpl, hln, hpd⟩, ⟨hst, hh6, hn6, hH⟩, hSl⟩ := id hr
  have hn10 := ok_n hok
  have hst6 : m_st M ≤ 6 := by omega
  refine lv_aload_n hx hb dL_law_538 rfl (lv_at hl 2 rfl) ?_
  refine lv_aload_n hx hb dL_law_539 rfl (lv_at hl 1 rfl) ?_
  refine lv_iload_n hx hb dL_law_540 rfl (lv_at hl 0 rfl) ?_
  refine lv_iconst (v := 1) hx hb dL_law_541 (by decide) ?_
  refine lv_iadd hx hb dL_law_542 ?_
  refine q_reI (show ((nI i) + 1 : Int32) = nI (i + 1) from nI_add i 1) ?_
  refine va_sld hx hb hX hbl hbA hS (vp_in_nI (by omega) (by omega)) dL_law_543 ?_
  refine q_ildj (f := xs) (by omega) ?_
  refine lv_aload_n hx hb dL_law_544 rfl (lv_at hl 1 rfl) ?_
  refine lv_iload_n hx hb dL_law_545 rfl (lv_at hl 0 rfl) ?_
  refine lv_iconst (v := 2) hx hb dL_law_546 (by decide) ?_
  refine lv_iadd hx hb dL_law_547 ?_
  refine q_reI (show ((nI i) + 2 : Int32) = nI (i + 2) from nI_add i 2) ?_
  refine va_sld hx hb hX hbl hbA hS (vp_in_nI (by omega) (by omega)) dL_law_548 ?_
  refine q_ildj (f := xs) (by omega) ?_
  refine lv_aload_n hx hb dL_law_549 rfl (lv_at hl 1 rfl) ?_
  refine lv_iload_n hx hb dL_law_550 rfl (lv_at hl 0 rfl) ?_
  refine lv_iconst (v := 3) hx hb dL_law_551 (by decide) ?_
  refine lv_iadd hx hb dL_law_552 ?_
  refine q_reI (show ((nI i) + 3 : Int32) = nI (i + 3) from nI_add i 3) ?_
  refine va_sld hx hb hX hbl hbA hS (vp_in_nI (by omega) (by omega)) dL_law_553 ?_
  refine q_ildj (f := xs) (by omega) ?_
  refine q_V (As := [.int (xs (i + 1)), .int (xs (i + 2)), .int (xs (i + 3))]) (rest := []) ⟨hx, hb, hml, hown, hts⟩ (c_X4_answer l g a b V (xs (i + 1)) (xs (i + 2)) (xs (i + 3)) hn10) (cwV 3 hts gL_law_X4_answer rfl rfl rfl (by decide +kernel) ⟨(Nat.le_of_ble_eq_true rfl), (Nat.le_of_ble_eq_true rfl)⟩) q_B_blind (va_recv hK hP (ci := 3) (q0 := 0) rfl rfl) (q_B_of hP hK hN) rfl hl.1 rfl (Nat.le_of_ble_eq_true rfl) dL_law_554 hc hs ?_
  refine lv_aload_n hx hb dL_law_557 rfl (lv_at hl 3 rfl) ?_
  refine lv_aload_n hx hb dL_law_558 rfl (lv_at hl 1 rfl) ?_
  refine lv_iload_n hx hb dL_law_559 rfl (lv_at hl 0 rfl) ?_
  refine lv_iconst (v := 1) hx hb dL_law_560 (by decide) ?_
  refine lv_iadd hx hb dL_law_561 ?_
  refine q_reI (show ((nI i) + 1 : Int32) = nI (i + 1) from nI_add i 1) ?_
  refine va_sld hx hb hX hbl hbA hS (vp_in_nI (by omega) (by omega)) dL_law_562 ?_
  refine q_ildj (f := xs) (by omega) ?_
  refine lv_aload_n hx hb dL_law_563 rfl (lv_at hl 1 rfl) ?_
  refine lv_iload_n hx hb dL_law_564 rfl (lv_at hl 0 rfl) ?_
  refine lv_iconst (v := 2) hx hb dL_law_565 (by decide) ?_
  refine lv_iadd hx hb dL_law_566 ?_
  refine q_reI (show ((nI i) + 2 : Int32) = nI (i + 2) from nI_add i 2) ?_
  refine va_sld hx hb hX hbl hbA hS (vp_in_nI (by omega) (by omega)) dL_law_567 ?_
  refine q_ildj (f := xs) (by omega) ?_
  refine lv_aload_n hx hb dL_law_568 rfl (lv_at hl 1 rfl) ?_
  refine lv_iload_n hx hb dL_law_569 rfl (lv_at hl 0 rfl) ?_
  refine lv_iconst (v := 3) hx hb dL_law_570 (by decide) ?_
  refine lv_iadd hx hb dL_law_571 ?_
  refine q_reI (show ((nI i) + 3 : Int32) = nI (i + 3) from nI_add i 3) ?_
  refine va_sld hx hb hX hbl hbA hS (vp_in_nI (by omega) (by omega)) dL_law_572 ?_
  refine q_ildj (f := xs) (by omega) ?_
  refine q_V (As := [.int (xs (i + 1)), .int (xs (i + 2)), .int (xs (i + 3))]) (rest := [.int (anwR V (xs (i + 1)) (xs (i + 2)) (xs (i + 3)))]) ⟨hx, hb, hml, hown, hts⟩ (c_X5_answer l g d M V K hcp hok hK5 hpl hln hpd hst (xs (i + 1)) (xs (i + 2)) (xs (i + 3))) (cwV 3 hts gL_law_X5_answer rfl rfl rfl (by decide +kernel) ⟨(Nat.le_of_ble_eq_true rfl), (Nat.le_of_ble_eq_true rfl)⟩) q_B_blind (va_recv hK hM (ci := 4) (q0 := 0) rfl rfl) (q_B_of hM hK hN) rfl hl.1 rfl (Nat.le_of_ble_eq_true rfl) dL_law_573 hc hs ?_
  refine lv_icmp_eq (tgt := 870) hx hb dL_law_576 (by decide) (fun _ => ?_) (fun hne => absurd rfl hne)
  exact kk _ _ _ _ (rl_up hr) hS hP hM

set_option maxHeartbeats 4000000 in
set_option maxRecDepth 100000 in
theorem law_at {p : Program} {l : Launch} {e : Env} {s : State} {m : MethodId} {below : List Frame} {meth : Method} {c : Code} {bs L : Nat} {xs : Nat → Int32} {g : q_G} {a : Nat → Nat → Nat} {b d : Nat → Nat} {K i : Nat} {V : q_CV} {M : q_MV} {cells slots : Nat} {Q : State → Prop} (C0 : lw_C p s m c bs L xs g a b d) (hi : i + 5 ≤ L) (hL : L ≤ 2560) (hK5 : K ≤ 512) (hr : q_rel K V M) {H : Heap} {locs : List Loc} (hS : va_S (fun q : Nat => s.heap.size ≤ q) s.heap H locs) (hP : va_P g.1 vwCl (q_pqW g a b V) H) (hM : va_P g.1 vwCl (q_mdW g d M) H) {ls : Array Slot} (hl : lv_has ls 4 [(3, .int (nI i)), (0, .ref bs), (1, .ref (b 0)), (2, .ref (d 0))]) (hc : cells ≤ 600000) (hs : slots ≤ 7302250) (kk : ∀ (V1 : q_CV) (M1 : q_MV) (H1 : Heap) (locs1 : List Loc), q_rel (K + 1) V1 M1 → va_S (fun q : Nat => s.heap.size ≤ q) s.heap H1 locs1 → va_P g.1 vwCl (q_pqW g a b V1) H1 → va_P g.1 vwCl (q_mdW g d M1) H1 → W p l e room_1 s m #[Value.ref bs] below meth c H1 locs1 cells slots Q (F0 m 870 ls [])) : W p l e room_1 s m #[Value.ref bs] below meth c H locs cells slots Q (F0 m 581 ls []) := by
  obtain ⟨hx, hb, hml, hown, hts, hX, hbl, hK, hN, hT, hI, hJ, hAa, hAd, hAx⟩ := C0
  have hbA : ¬ (fun q : Nat => s.heap.size ≤ q) bs := Nat.not_le.mpr hbl
  obtain ⟨⟨hcp, hok⟩, ⟨hpl, hln, hpd⟩, ⟨hst, hh6, hn6, hH⟩, hSl⟩ := id hr
  have hn10 := ok_n hok
  have hst6 : m_st M ≤ 6 := by omega
  refine lv_aload_n hx hb dL_law_581 rfl (lv_at hl 2 rfl) ?_
  refine lv_aload_n hx hb dL_law_582 rfl (lv_at hl 1 rfl) ?_
  refine lv_iload_n hx hb dL_law_583 rfl (lv_at hl 0 rfl) ?_
  refine lv_iconst (v := 1) hx hb dL_law_584 (by decide) ?_
  refine lv_iadd hx hb dL_law_585 ?_
  refine q_reI (show ((nI i) + 1 : Int32) = nI (i + 1) from nI_add i 1) ?_
  refine va_sld hx hb hX hbl hbA hS (vp_in_nI (by omega) (by omega)) dL_law_586 ?_
  refine q_ildj (f := xs) (by omega) ?_
  refine q_V (As := [.int (xs (i + 1))]) (rest := []) ⟨hx, hb, hml, hown, hts⟩ (c_X4_at l g a b V (xs (i + 1)) hn10) (cwV 1 hts gL_law_X4_at rfl rfl rfl (by decide +kernel) ⟨(Nat.le_of_ble_eq_true rfl), (Nat.le_of_ble_eq_true rfl)⟩) q_B_blind (va_recv hK hP (ci := 3) (q0 := 0) rfl rfl) (q_B_of hP hK hN) rfl hl.1 rfl (Nat.le_of_ble_eq_true rfl) dL_law_587 hc hs ?_
  refine lv_aload_n hx hb dL_law_590 rfl (lv_at hl 3 rfl) ?_
  refine lv_aload_n hx hb dL_law_591 rfl (lv_at hl 1 rfl) ?_
  refine lv_iload_n hx hb dL_law_592 rfl (lv_at hl 0 rfl) ?_
  refine lv_iconst (v := 1) hx hb dL_law_593 (by decide) ?_
  refine lv_iadd hx hb dL_law_594 ?_
  refine q_reI (show ((nI i) + 1 : Int32) = nI (i + 1) from nI_add i 1) ?_
  refine va_sld hx hb hX hbl hbA hS (vp_in_nI (by omega) (by omega)) dL_law_595 ?_
  refine q_ildj (f := xs) (by omega) ?_
  refine q_V (As := [.int (xs (i + 1))]) (rest := [.int (atR V (xs (i + 1)))]) ⟨hx, hb, hml, hown, hts⟩ (c_X5_at l g d M V K hcp hok hK5 hpl hln hpd hst (xs (i + 1))) (cwV 1 hts gL_law_X5_at rfl rfl rfl (by decide +kernel) ⟨(Nat.le_of_ble_eq_true rfl), (Nat.le_of_ble_eq_true rfl)⟩) q_B_blind (va_recv hK hM (ci := 4) (q0 := 0) rfl rfl) (q_B_of hM hK hN) rfl hl.1 rfl (Nat.le_of_ble_eq_true rfl) dL_law_596 hc hs ?_
  refine q_reI (at_eq hok hK5 _).symm ?_
  refine lv_icmp_eq (tgt := 870) hx hb dL_law_599 (by decide) (fun _ => ?_) (fun hne => absurd rfl hne)
  exact kk _ _ _ _ (rl_up hr) hS hP hM

set_option maxHeartbeats 4000000 in
set_option maxRecDepth 100000 in
theorem law_count {p : Program} {l : Launch} {e : Env} {s : State} {m : MethodId} {below : List Frame} {meth : Method} {c : Code} {bs L : Nat} {xs : Nat → Int32} {g : q_G} {a : Nat → Nat → Nat} {b d : Nat → Nat} {K i : Nat} {V : q_CV} {M : q_MV} {cells slots : Nat} {Q : State → Prop} (C0 : lw_C p s m c bs L xs g a b d) (hi : i + 5 ≤ L) (hL : L ≤ 2560) (hK5 : K ≤ 512) (hr : q_rel K V M) {H : Heap} {locs : List Loc} (hS : va_S (fun q : Nat => s.heap.size ≤ q) s.heap H locs) (hP : va_P g.1 vwCl (q_pqW g a b V) H) (hM : va_P g.1 vwCl (q_mdW g d M) H) {ls : Array Slot} (hl : lv_has ls 4 [(3, .int (nI i)), (0, .ref bs), (1, .ref (b 0)), (2, .ref (d 0))]) (hc : cells ≤ 600000) (hs : slots ≤ 7302250) (kk : ∀ (V1 : q_CV) (M1 : q_MV) (H1 : Heap) (locs1 : List Loc), q_rel (K + 1) V1 M1 → va_S (fun q : Nat => s.heap.size ≤ q) s.heap H1 locs1 → va_P g.1 vwCl (q_pqW g a b V1) H1 → va_P g.1 vwCl (q_mdW g d M1) H1 → W p l e room_1 s m #[Value.ref bs] below meth c H1 locs1 cells slots Q (F0 m 870 ls [])) : W p l e room_1 s m #[Value.ref bs] below meth c H locs cells slots Q (F0 m 604 ls []) := by
  obtain ⟨hx, hb, hml, hown, hts, hX, hbl, hK, hN, hT, hI, hJ, hAa, hAd, hAx⟩ := C0
  have hbA : ¬ (fun q : Nat => s.heap.size ≤ q) bs := Nat.not_le.mpr hbl
  obtain ⟨⟨hcp, hok⟩, ⟨hpl, hln, hpd⟩, ⟨hst, hh6, hn6, hH⟩, hSl⟩ := id hr
  have hn10 := ok_n hok
  have hst6 : m_st M ≤ 6 := by omega
  refine lv_aload_n hx hb dL_law_604 rfl (lv_at hl 2 rfl) ?_
  refine lv_aload_n hx hb dL_law_605 rfl (lv_at hl 1 rfl) ?_
  refine lv_iload_n hx hb dL_law_606 rfl (lv_at hl 0 rfl) ?_
  refine lv_iconst (v := 1) hx hb dL_law_607 (by decide) ?_
  refine lv_iadd hx hb dL_law_608 ?_
  refine q_reI (show ((nI i) + 1 : Int32) = nI (i + 1) from nI_add i 1) ?_
  refine va_sld hx hb hX hbl hbA hS (vp_in_nI (by omega) (by omega)) dL_law_609 ?_
  refine q_ildj (f := xs) (by omega) ?_
  refine q_V (As := [.int (xs (i + 1))]) (rest := []) ⟨hx, hb, hml, hown, hts⟩ (c_X4_count l g a b V (xs (i + 1)) hn10) (cwV 1 hts gL_law_X4_count rfl rfl rfl (by decide +kernel) ⟨(Nat.le_of_ble_eq_true rfl), (Nat.le_of_ble_eq_true rfl)⟩) q_B_blind (va_recv hK hP (ci := 3) (q0 := 0) rfl rfl) (q_B_of hP hK hN) rfl hl.1 rfl (Nat.le_of_ble_eq_true rfl) dL_law_610 hc hs ?_
  refine lv_aload_n hx hb dL_law_613 rfl (lv_at hl 3 rfl) ?_
  refine lv_aload_n hx hb dL_law_614 rfl (lv_at hl 1 rfl) ?_
  refine lv_iload_n hx hb dL_law_615 rfl (lv_at hl 0 rfl) ?_
  refine lv_iconst (v := 1) hx hb dL_law_616 (by decide) ?_
  refine lv_iadd hx hb dL_law_617 ?_
  refine q_reI (show ((nI i) + 1 : Int32) = nI (i + 1) from nI_add i 1) ?_
  refine va_sld hx hb hX hbl hbA hS (vp_in_nI (by omega) (by omega)) dL_law_618 ?_
  refine q_ildj (f := xs) (by omega) ?_
  refine q_V (As := [.int (xs (i + 1))]) (rest := [.int (couR V (xs (i + 1)))]) ⟨hx, hb, hml, hown, hts⟩ (c_X5_count l g d M V K hcp hok hK5 hpl hln hpd hst (xs (i + 1))) (cwV 1 hts gL_law_X5_count rfl rfl rfl (by decide +kernel) ⟨(Nat.le_of_ble_eq_true rfl), (Nat.le_of_ble_eq_true rfl)⟩) q_B_blind (va_recv hK hM (ci := 4) (q0 := 0) rfl rfl) (q_B_of hM hK hN) rfl hl.1 rfl (Nat.le_of_ble_eq_true rfl) dL_law_619 hc hs ?_
  refine lv_icmp_eq (tgt := 870) hx hb dL_law_622 (by decide) (fun _ => ?_) (fun hne => absurd rfl hne)
  exact kk _ _ _ _ (rl_up hr) hS hP hM

set_option maxHeartbeats 4000000 in
set_option maxRecDepth 100000 in
theorem law_bestJoker {p : Program} {l : Launch} {e : Env} {s : State} {m : MethodId} {below : List Frame} {meth : Method} {c : Code} {bs L : Nat} {xs : Nat → Int32} {g : q_G} {a : Nat → Nat → Nat} {b d : Nat → Nat} {K i : Nat} {V : q_CV} {M : q_MV} {cells slots : Nat} {Q : State → Prop} (C0 : lw_C p s m c bs L xs g a b d) (hi : i + 5 ≤ L) (hL : L ≤ 2560) (hK5 : K ≤ 512) (hr : q_rel K V M) {H : Heap} {locs : List Loc} (hS : va_S (fun q : Nat => s.heap.size ≤ q) s.heap H locs) (hP : va_P g.1 vwCl (q_pqW g a b V) H) (hM : va_P g.1 vwCl (q_mdW g d M) H) {ls : Array Slot} (hl : lv_has ls 4 [(3, .int (nI i)), (0, .ref bs), (1, .ref (b 0)), (2, .ref (d 0))]) (hc : cells ≤ 600000) (hs : slots ≤ 7302250) (kk : ∀ (V1 : q_CV) (M1 : q_MV) (H1 : Heap) (locs1 : List Loc), q_rel (K + 1) V1 M1 → va_S (fun q : Nat => s.heap.size ≤ q) s.heap H1 locs1 → va_P g.1 vwCl (q_pqW g a b V1) H1 → va_P g.1 vwCl (q_mdW g d M1) H1 → W p l e room_1 s m #[Value.ref bs] below meth c H1 locs1 cells slots Q (F0 m 870 ls [])) : W p l e room_1 s m #[Value.ref bs] below meth c H locs cells slots Q (F0 m 627 ls []) := by
  obtain ⟨hx, hb, hml, hown, hts, hX, hbl, hK, hN, hT, hI, hJ, hAa, hAd, hAx⟩ := C0
  have hbA : ¬ (fun q : Nat => s.heap.size ≤ q) bs := Nat.not_le.mpr hbl
  obtain ⟨⟨hcp, hok⟩, ⟨hpl, hln, hpd⟩, ⟨hst, hh6, hn6, hH⟩, hSl⟩ := id hr
  have hn10 := ok_n hok
  have hst6 : m_st M ≤ 6 := by omega
  refine lv_aload_n hx hb dL_law_627 rfl (lv_at hl 2 rfl) ?_
  refine lv_aload_n hx hb dL_law_628 rfl (lv_at hl 1 rfl) ?_
  refine lv_iload_n hx hb dL_law_629 rfl (lv_at hl 0 rfl) ?_
  refine lv_iconst (v := 1) hx hb dL_law_630 (by decide) ?_
  refine lv_iadd hx hb dL_law_631 ?_
  refine q_reI (show ((nI i) + 1 : Int32) = nI (i + 1) from nI_add i 1) ?_
  refine va_sld hx hb hX hbl hbA hS (vp_in_nI (by omega) (by omega)) dL_law_632 ?_
  refine q_ildj (f := xs) (by omega) ?_
  refine lv_aload_n hx hb dL_law_633 rfl (lv_at hl 1 rfl) ?_
  refine lv_iload_n hx hb dL_law_634 rfl (lv_at hl 0 rfl) ?_
  refine lv_iconst (v := 2) hx hb dL_law_635 (by decide) ?_
  refine lv_iadd hx hb dL_law_636 ?_
  refine q_reI (show ((nI i) + 2 : Int32) = nI (i + 2) from nI_add i 2) ?_
  refine va_sld hx hb hX hbl hbA hS (vp_in_nI (by omega) (by omega)) dL_law_637 ?_
  refine q_ildj (f := xs) (by omega) ?_
  refine q_V (As := [.int (xs (i + 1)), .int (xs (i + 2))]) (rest := []) ⟨hx, hb, hml, hown, hts⟩ (c_X4_bestJoker l g a b V (xs (i + 1)) (xs (i + 2)) hn10) (cwV 2 hts gL_law_X4_bestJoker rfl rfl rfl (by decide +kernel) ⟨(Nat.le_of_ble_eq_true rfl), (Nat.le_of_ble_eq_true rfl)⟩) q_B_blind (va_recv hK hP (ci := 3) (q0 := 0) rfl rfl) (q_B_of hP hK hN) rfl hl.1 rfl (Nat.le_of_ble_eq_true rfl) dL_law_638 hc hs ?_
  refine lv_aload_n hx hb dL_law_641 rfl (lv_at hl 3 rfl) ?_
  refine lv_aload_n hx hb dL_law_642 rfl (lv_at hl 1 rfl) ?_
  refine lv_iload_n hx hb dL_law_643 rfl (lv_at hl 0 rfl) ?_
  refine lv_iconst (v := 1) hx hb dL_law_644 (by decide) ?_
  refine lv_iadd hx hb dL_law_645 ?_
  refine q_reI (show ((nI i) + 1 : Int32) = nI (i + 1) from nI_add i 1) ?_
  refine va_sld hx hb hX hbl hbA hS (vp_in_nI (by omega) (by omega)) dL_law_646 ?_
  refine q_ildj (f := xs) (by omega) ?_
  refine lv_aload_n hx hb dL_law_647 rfl (lv_at hl 1 rfl) ?_
  refine lv_iload_n hx hb dL_law_648 rfl (lv_at hl 0 rfl) ?_
  refine lv_iconst (v := 2) hx hb dL_law_649 (by decide) ?_
  refine lv_iadd hx hb dL_law_650 ?_
  refine q_reI (show ((nI i) + 2 : Int32) = nI (i + 2) from nI_add i 2) ?_
  refine va_sld hx hb hX hbl hbA hS (vp_in_nI (by omega) (by omega)) dL_law_651 ?_
  refine q_ildj (f := xs) (by omega) ?_
  refine q_VM (As := [.int (xs (i + 1)), .int (xs (i + 2))]) (rest := [.int (bejR V (xs (i + 1)) (xs (i + 2)))]) (st2 := [.int (bejR V (xs (i + 1)) (xs (i + 2))), .int (bejR V (xs (i + 1)) (xs (i + 2)))]) (c2 := cells) (s2 := slots) ⟨hx, hb, hml, hown, hts⟩ (c_X5_bestJoker l g d M hJ V K hcp hok hK5 (xs (i + 1)) (xs (i + 2)) hst6) (cwV 2 hts gL_law_X5_bestJoker rfl rfl rfl (by decide +kernel) ⟨(Nat.le_of_ble_eq_true rfl), (Nat.le_of_ble_eq_true rfl)⟩) q_B_blind (va_recv hK hM (ci := 4) (q0 := 0) rfl rfl) (q_B_of hM hK hN) rfl hl.1 rfl (Nat.le_of_ble_eq_true rfl) dL_law_652 hc hs hS hAd rfl rfl rfl (fun H locs hM hF hS _ => ?_)
  have hP := q_pqK hP hF hAx
  refine lv_icmp_eq (tgt := 870) hx hb dL_law_655 (by decide) (fun _ => ?_) (fun hne => absurd rfl hne)
  exact kk _ _ _ _ (rl_up hr) hS hP hM

set_option maxHeartbeats 4000000 in
set_option maxRecDepth 100000 in
theorem law_most {p : Program} {l : Launch} {e : Env} {s : State} {m : MethodId} {below : List Frame} {meth : Method} {c : Code} {bs L : Nat} {xs : Nat → Int32} {g : q_G} {a : Nat → Nat → Nat} {b d : Nat → Nat} {K i : Nat} {V : q_CV} {M : q_MV} {cells slots : Nat} {Q : State → Prop} (C0 : lw_C p s m c bs L xs g a b d) (hi : i + 5 ≤ L) (hL : L ≤ 2560) (hK5 : K ≤ 512) (hr : q_rel K V M) {H : Heap} {locs : List Loc} (hS : va_S (fun q : Nat => s.heap.size ≤ q) s.heap H locs) (hP : va_P g.1 vwCl (q_pqW g a b V) H) (hM : va_P g.1 vwCl (q_mdW g d M) H) {ls : Array Slot} (hl : lv_has ls 4 [(3, .int (nI i)), (0, .ref bs), (1, .ref (b 0)), (2, .ref (d 0))]) (hc : cells ≤ 600000) (hs : slots ≤ 7302250) (kk : ∀ (V1 : q_CV) (M1 : q_MV) (H1 : Heap) (locs1 : List Loc), q_rel (K + 1) V1 M1 → va_S (fun q : Nat => s.heap.size ≤ q) s.heap H1 locs1 → va_P g.1 vwCl (q_pqW g a b V1) H1 → va_P g.1 vwCl (q_mdW g d M1) H1 → W p l e room_1 s m #[Value.ref bs] below meth c H1 locs1 cells slots Q (F0 m 870 ls [])) : W p l e room_1 s m #[Value.ref bs] below meth c H locs cells slots Q (F0 m 660 ls []) := by
  obtain ⟨hx, hb, hml, hown, hts, hX, hbl, hK, hN, hT, hI, hJ, hAa, hAd, hAx⟩ := C0
  have hbA : ¬ (fun q : Nat => s.heap.size ≤ q) bs := Nat.not_le.mpr hbl
  obtain ⟨⟨hcp, hok⟩, ⟨hpl, hln, hpd⟩, ⟨hst, hh6, hn6, hH⟩, hSl⟩ := id hr
  have hn10 := ok_n hok
  have hst6 : m_st M ≤ 6 := by omega
  refine lv_aload_n hx hb dL_law_660 rfl (lv_at hl 2 rfl) ?_
  refine lv_aload_n hx hb dL_law_661 rfl (lv_at hl 1 rfl) ?_
  refine lv_iload_n hx hb dL_law_662 rfl (lv_at hl 0 rfl) ?_
  refine lv_iconst (v := 1) hx hb dL_law_663 (by decide) ?_
  refine lv_iadd hx hb dL_law_664 ?_
  refine q_reI (show ((nI i) + 1 : Int32) = nI (i + 1) from nI_add i 1) ?_
  refine va_sld hx hb hX hbl hbA hS (vp_in_nI (by omega) (by omega)) dL_law_665 ?_
  refine q_ildj (f := xs) (by omega) ?_
  refine q_V (As := [.int (xs (i + 1))]) (rest := []) ⟨hx, hb, hml, hown, hts⟩ (c_X4_most l g a b V (xs (i + 1)) hn10) (cwV 1 hts gL_law_X4_most rfl rfl rfl (by decide +kernel) ⟨(Nat.le_of_ble_eq_true rfl), (Nat.le_of_ble_eq_true rfl)⟩) q_B_blind (va_recv hK hP (ci := 3) (q0 := 0) rfl rfl) (q_B_of hP hK hN) rfl hl.1 rfl (Nat.le_of_ble_eq_true rfl) dL_law_666 hc hs ?_
  refine lv_aload_n hx hb dL_law_669 rfl (lv_at hl 3 rfl) ?_
  refine lv_aload_n hx hb dL_law_670 rfl (lv_at hl 1 rfl) ?_
  refine lv_iload_n hx hb dL_law_671 rfl (lv_at hl 0 rfl) ?_
  refine lv_iconst (v := 1) hx hb dL_law_672 (by decide) ?_
  refine lv_iadd hx hb dL_law_673 ?_
  refine q_reI (show ((nI i) + 1 : Int32) = nI (i + 1) from nI_add i 1) ?_
  refine va_sld hx hb hX hbl hbA hS (vp_in_nI (by omega) (by omega)) dL_law_674 ?_
  refine q_ildj (f := xs) (by omega) ?_
  refine q_V (As := [.int (xs (i + 1))]) (rest := [.int (mosR V (xs (i + 1)))]) ⟨hx, hb, hml, hown, hts⟩ (c_X5_most l g d M V K hcp hok hK5 hpl hln hpd hst (xs (i + 1))) (cwV 1 hts gL_law_X5_most rfl rfl rfl (by decide +kernel) ⟨(Nat.le_of_ble_eq_true rfl), (Nat.le_of_ble_eq_true rfl)⟩) q_B_blind (va_recv hK hM (ci := 4) (q0 := 0) rfl rfl) (q_B_of hM hK hN) rfl hl.1 rfl (Nat.le_of_ble_eq_true rfl) dL_law_675 hc hs ?_
  refine lv_icmp_eq (tgt := 870) hx hb dL_law_678 (by decide) (fun _ => ?_) (fun hne => absurd rfl hne)
  exact kk _ _ _ _ (rl_up hr) hS hP hM

set_option maxHeartbeats 4000000 in
set_option maxRecDepth 100000 in
theorem law_canWin {p : Program} {l : Launch} {e : Env} {s : State} {m : MethodId} {below : List Frame} {meth : Method} {c : Code} {bs L : Nat} {xs : Nat → Int32} {g : q_G} {a : Nat → Nat → Nat} {b d : Nat → Nat} {K i : Nat} {V : q_CV} {M : q_MV} {cells slots : Nat} {Q : State → Prop} (C0 : lw_C p s m c bs L xs g a b d) (hi : i + 5 ≤ L) (hL : L ≤ 2560) (hK5 : K ≤ 512) (hr : q_rel K V M) {H : Heap} {locs : List Loc} (hS : va_S (fun q : Nat => s.heap.size ≤ q) s.heap H locs) (hP : va_P g.1 vwCl (q_pqW g a b V) H) (hM : va_P g.1 vwCl (q_mdW g d M) H) {ls : Array Slot} (hl : lv_has ls 4 [(3, .int (nI i)), (0, .ref bs), (1, .ref (b 0)), (2, .ref (d 0))]) (hc : cells ≤ 600000) (hs : slots ≤ 7302250) (kk : ∀ (V1 : q_CV) (M1 : q_MV) (H1 : Heap) (locs1 : List Loc), q_rel (K + 1) V1 M1 → va_S (fun q : Nat => s.heap.size ≤ q) s.heap H1 locs1 → va_P g.1 vwCl (q_pqW g a b V1) H1 → va_P g.1 vwCl (q_mdW g d M1) H1 → W p l e room_1 s m #[Value.ref bs] below meth c H1 locs1 cells slots Q (F0 m 870 ls [])) : W p l e room_1 s m #[Value.ref bs] below meth c H locs cells slots Q (F0 m 683 ls []) := by
  obtain ⟨hx, hb, hml, hown, hts, hX, hbl, hK, hN, hT, hI, hJ, hAa, hAd, hAx⟩ := C0
  have hbA : ¬ (fun q : Nat => s.heap.size ≤ q) bs := Nat.not_le.mpr hbl
  obtain ⟨⟨hcp, hok⟩, ⟨hpl, hln, hpd⟩, ⟨hst, hh6, hn6, hH⟩, hSl⟩ := id hr
  have hn10 := ok_n hok
  have hst6 : m_st M ≤ 6 := by omega
  refine lv_aload_n hx hb dL_law_683 rfl (lv_at hl 2 rfl) ?_
  refine q_V (As := []) (rest := []) ⟨hx, hb, hml, hown, hts⟩ (c_X4_canWin l g a b V hn10) (cwV 0 hts gL_law_X4_canWin rfl rfl rfl (by decide +kernel) ⟨(Nat.le_of_ble_eq_true rfl), (Nat.le_of_ble_eq_true rfl)⟩) q_B_blind (va_recv hK hP (ci := 3) (q0 := 0) rfl rfl) (q_B_of hP hK hN) rfl hl.1 rfl (Nat.le_of_ble_eq_true rfl) dL_law_684 hc hs ?_
  refine lv_aload_n hx hb dL_law_687 rfl (lv_at hl 3 rfl) ?_
  refine q_V (As := []) (rest := [.int (canR V)]) ⟨hx, hb, hml, hown, hts⟩ (c_X5_canWin l g d M V K hcp hok hK5 hpl hln hpd hst) (cwV 0 hts gL_law_X5_canWin rfl rfl rfl (by decide +kernel) ⟨(Nat.le_of_ble_eq_true rfl), (Nat.le_of_ble_eq_true rfl)⟩) q_B_blind (va_recv hK hM (ci := 4) (q0 := 0) rfl rfl) (q_B_of hM hK hN) rfl hl.1 rfl (Nat.le_of_ble_eq_true rfl) dL_law_688 hc hs ?_
  refine lv_icmp_eq (tgt := 870) hx hb dL_law_691 (by decide) (fun _ => ?_) (fun hne => absurd rfl hne)
  exact kk _ _ _ _ (rl_up hr) hS hP hM
