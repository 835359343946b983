/-! the law's cases -/
set_option maxHeartbeats 4000000 in
set_option maxRecDepth 100000 in
theorem law_ifLooked {p : Program} {l : Launch} {e : Env} {s : State} {m : MethodId} {below : List Frame} {meth : Method} {c : Code} {bs L : Nat} {xs : Nat → Int32} {g : q_G} {a : Nat → Nat → Nat} {b d : Nat → Nat} {K i : Nat} {V : q_CV} {M : q_MV} {cells slots : Nat} {Q : State → Prop} (C0 : lw_C p s m c bs L xs g a b d) (hi : i + 5 ≤ L) (hL : L ≤ 2560) (hK5 : K ≤ 512) (hr : q_rel K V M) {H : Heap} {locs : List Loc} (hS : va_S (fun q : Nat => s.heap.size ≤ q) s.heap H locs) (hP : va_P g.1 vwCl (q_pqW g a b V) H) (hM : va_P g.1 vwCl (q_mdW g d M) H) {ls : Array Slot} (hl : lv_has ls 4 [(3, .int (nI i)), (0, .ref bs), (1, .ref (b 0)), (2, .ref (d 0))]) (hc : cells ≤ 600000) (hs : slots ≤ 7302250) (kk : ∀ (V1 : q_CV) (M1 : q_MV) (H1 : Heap) (locs1 : List Loc), q_rel (K + 1) V1 M1 → va_S (fun q : Nat => s.heap.size ≤ q) s.heap H1 locs1 → va_P g.1 vwCl (q_pqW g a b V1) H1 → va_P g.1 vwCl (q_mdW g d M1) H1 → W p l e room_1 s m #[Value.ref bs] below meth c H1 locs1 cells slots Q (F0 m 870 ls [])) : W p l e room_1 s m #[Value.ref bs] below meth c H locs cells slots Q (F0 m 696 ls []) := by
  obtain ⟨hx, hb, hml, hown, hts, hX, hbl, hK, hN, hT, hI, hJ, hAa, hAd, hAx⟩ := C0
  have hbA : ¬ (fun q : Nat => s.heap.size ≤ q) bs := Nat.not_le.mpr hbl
  obtain ⟨⟨hcp, hok⟩, ⟨hpl, hln, hpd⟩, ⟨hst, hh6, hn6, hH⟩, hSl⟩ := id hr
  have hn10 := ok_n hok
  have hst6 : m_st M ≤ 6 := by omega
  refine lv_aload_n hx hb dL_law_696 rfl (lv_at hl 2 rfl) ?_
  refine lv_aload_n hx hb dL_law_697 rfl (lv_at hl 1 rfl) ?_
  refine lv_iload_n hx hb dL_law_698 rfl (lv_at hl 0 rfl) ?_
  refine lv_iconst (v := 1) hx hb dL_law_699 (by decide) ?_
  refine lv_iadd hx hb dL_law_700 ?_
  refine q_reI (show ((nI i) + 1 : Int32) = nI (i + 1) from nI_add i 1) ?_
  refine va_sld hx hb hX hbl hbA hS (vp_in_nI (by omega) (by omega)) dL_law_701 ?_
  refine q_ildj (f := xs) (by omega) ?_
  refine q_V (As := [.int (xs (i + 1))]) (rest := []) ⟨hx, hb, hml, hown, hts⟩ (c_X4_ifLooked l g a b V (xs (i + 1)) hn10) (cwV 1 hts gL_law_X4_ifLooked rfl rfl rfl (by decide +kernel) ⟨(Nat.le_of_ble_eq_true rfl), (Nat.le_of_ble_eq_true rfl)⟩) q_B_blind (va_recv hK hP (ci := 3) (q0 := 0) rfl rfl) (q_B_of hP hK hN) rfl hl.1 rfl (Nat.le_of_ble_eq_true rfl) dL_law_702 hc hs ?_
  refine lv_aload_n hx hb dL_law_705 rfl (lv_at hl 3 rfl) ?_
  refine lv_aload_n hx hb dL_law_706 rfl (lv_at hl 1 rfl) ?_
  refine lv_iload_n hx hb dL_law_707 rfl (lv_at hl 0 rfl) ?_
  refine lv_iconst (v := 1) hx hb dL_law_708 (by decide) ?_
  refine lv_iadd hx hb dL_law_709 ?_
  refine q_reI (show ((nI i) + 1 : Int32) = nI (i + 1) from nI_add i 1) ?_
  refine va_sld hx hb hX hbl hbA hS (vp_in_nI (by omega) (by omega)) dL_law_710 ?_
  refine q_ildj (f := xs) (by omega) ?_
  refine q_V (As := [.int (xs (i + 1))]) (rest := [.int (iflR V (xs (i + 1)))]) ⟨hx, hb, hml, hown, hts⟩ (c_X5_ifLooked l g d M V K hcp hok hK5 hpl hln hpd hst (xs (i + 1))) (cwV 1 hts gL_law_X5_ifLooked rfl rfl rfl (by decide +kernel) ⟨(Nat.le_of_ble_eq_true rfl), (Nat.le_of_ble_eq_true rfl)⟩) q_B_blind (va_recv hK hM (ci := 4) (q0 := 0) rfl rfl) (q_B_of hM hK hN) rfl hl.1 rfl (Nat.le_of_ble_eq_true rfl) dL_law_711 hc hs ?_
  refine lv_icmp_eq (tgt := 870) hx hb dL_law_714 (by decide) (fun _ => ?_) (fun hne => absurd rfl hne)
  exact kk _ _ _ _ (rl_up hr) hS hP hM

set_option maxHeartbeats 4000000 in
set_option maxRecDepth 100000 in
theorem law_wrongMarks {p : Program} {l : Launch} {e : Env} {s : State} {m : MethodId} {below : List Frame} {meth : Method} {c : Code} {bs L : Nat} {xs : Nat → Int32} {g : q_G} {a : Nat → Nat → Nat} {b d : Nat → Nat} {K i : Nat} {V : q_CV} {M : q_MV} {cells slots : Nat} {Q : State → Prop} (C0 : lw_C p s m c bs L xs g a b d) (hi : i + 5 ≤ L) (hL : L ≤ 2560) (hK5 : K ≤ 512) (hr : q_rel K V M) {H : Heap} {locs : List Loc} (hS : va_S (fun q : Nat => s.heap.size ≤ q) s.heap H locs) (hP : va_P g.1 vwCl (q_pqW g a b V) H) (hM : va_P g.1 vwCl (q_mdW g d M) H) {ls : Array Slot} (hl : lv_has ls 4 [(3, .int (nI i)), (0, .ref bs), (1, .ref (b 0)), (2, .ref (d 0))]) (hc : cells ≤ 600000) (hs : slots ≤ 7302250) (kk : ∀ (V1 : q_CV) (M1 : q_MV) (H1 : Heap) (locs1 : List Loc), q_rel (K + 1) V1 M1 → va_S (fun q : Nat => s.heap.size ≤ q) s.heap H1 locs1 → va_P g.1 vwCl (q_pqW g a b V1) H1 → va_P g.1 vwCl (q_mdW g d M1) H1 → W p l e room_1 s m #[Value.ref bs] below meth c H1 locs1 cells slots Q (F0 m 870 ls [])) : W p l e room_1 s m #[Value.ref bs] below meth c H locs cells slots Q (F0 m 719 ls []) := by
  obtain ⟨hx, hb, hml, hown, hts, hX, hbl, hK, hN, hT, hI, hJ, hAa, hAd, hAx⟩ := C0
  have hbA : ¬ (fun q : Nat => s.heap.size ≤ q) bs := Nat.not_le.mpr hbl
  obtain ⟨⟨hcp, hok⟩, ⟨hpl, hln, hpd⟩, ⟨hst, hh6, hn6, hH⟩, hSl⟩ := id hr
  have hn10 := ok_n hok
  have hst6 : m_st M ≤ 6 := by omega
  refine lv_aload_n hx hb dL_law_719 rfl (lv_at hl 2 rfl) ?_
  refine q_V (As := []) (rest := []) ⟨hx, hb, hml, hown, hts⟩ (c_X4_wrongMarks l g a b V hn10) (cwV 0 hts gL_law_X4_wrongMarks rfl rfl rfl (by decide +kernel) ⟨(Nat.le_of_ble_eq_true rfl), (Nat.le_of_ble_eq_true rfl)⟩) q_B_blind (va_recv hK hP (ci := 3) (q0 := 0) rfl rfl) (q_B_of hP hK hN) rfl hl.1 rfl (Nat.le_of_ble_eq_true rfl) dL_law_720 hc hs ?_
  refine lv_aload_n hx hb dL_law_723 rfl (lv_at hl 3 rfl) ?_
  refine q_V (As := []) (rest := [.int (wroR V)]) ⟨hx, hb, hml, hown, hts⟩ (c_X5_wrongMarks l g d M V K hcp hok hK5 hpl hln hpd hst) (cwV 0 hts gL_law_X5_wrongMarks rfl rfl rfl (by decide +kernel) ⟨(Nat.le_of_ble_eq_true rfl), (Nat.le_of_ble_eq_true rfl)⟩) q_B_blind (va_recv hK hM (ci := 4) (q0 := 0) rfl rfl) (q_B_of hM hK hN) rfl hl.1 rfl (Nat.le_of_ble_eq_true rfl) dL_law_724 hc hs ?_
  refine lv_icmp_eq (tgt := 870) hx hb dL_law_727 (by decide) (fun _ => ?_) (fun hne => absurd rfl hne)
  exact kk _ _ _ _ (rl_up hr) hS hP hM

set_option maxHeartbeats 4000000 in
set_option maxRecDepth 100000 in
theorem law_put {p : Program} {l : Launch} {e : Env} {s : State} {m : MethodId} {below : List Frame} {meth : Method} {c : Code} {bs L : Nat} {xs : Nat → Int32} {g : q_G} {a : Nat → Nat → Nat} {b d : Nat → Nat} {K i : Nat} {V : q_CV} {M : q_MV} {cells slots : Nat} {Q : State → Prop} (C0 : lw_C p s m c bs L xs g a b d) (hi : i + 5 ≤ L) (hL : L ≤ 2560) (hK5 : K ≤ 512) (hr : q_rel K V M) {H : Heap} {locs : List Loc} (hS : va_S (fun q : Nat => s.heap.size ≤ q) s.heap H locs) (hP : va_P g.1 vwCl (q_pqW g a b V) H) (hM : va_P g.1 vwCl (q_mdW g d M) H) {ls : Array Slot} (hl : lv_has ls 4 [(3, .int (nI i)), (0, .ref bs), (1, .ref (b 0)), (2, .ref (d 0))]) (hc : cells ≤ 600000) (hs : slots ≤ 7302250) (kk : ∀ (V1 : q_CV) (M1 : q_MV) (H1 : Heap) (locs1 : List Loc), q_rel (K + 1) V1 M1 → va_S (fun q : Nat => s.heap.size ≤ q) s.heap H1 locs1 → va_P g.1 vwCl (q_pqW g a b V1) H1 → va_P g.1 vwCl (q_mdW g d M1) H1 → W p l e room_1 s m #[Value.ref bs] below meth c H1 locs1 cells slots Q (F0 m 870 ls [])) : W p l e room_1 s m #[Value.ref bs] below meth c H locs cells slots Q (F0 m 732 ls []) := by
  obtain ⟨hx, hb, hml, hown, hts, hX, hbl, hK, hN, hT, hI, hJ, hAa, hAd, hAx⟩ := C0
  have hbA : ¬ (fun q : Nat => s.heap.size ≤ q) bs := Nat.not_le.mpr hbl
  obtain ⟨⟨hcp, hok⟩, ⟨hpl, hln, hpd⟩, ⟨hst, hh6, hn6, hH⟩, hSl⟩ := id hr
  have hn10 := ok_n hok
  have hst6 : m_st M ≤ 6 := by omega
  refine lv_aload_n hx hb dL_law_732 rfl (lv_at hl 2 rfl) ?_
  refine lv_aload_n hx hb dL_law_733 rfl (lv_at hl 1 rfl) ?_
  refine lv_iload_n hx hb dL_law_734 rfl (lv_at hl 0 rfl) ?_
  refine lv_iconst (v := 1) hx hb dL_law_735 (by decide) ?_
  refine lv_iadd hx hb dL_law_736 ?_
  refine q_reI (show ((nI i) + 1 : Int32) = nI (i + 1) from nI_add i 1) ?_
  refine va_sld hx hb hX hbl hbA hS (vp_in_nI (by omega) (by omega)) dL_law_737 ?_
  refine q_ildj (f := xs) (by omega) ?_
  refine lv_i2l (v := (xs (i + 1)).toInt64) hx hb dL_law_738 rfl ?_
  refine lv_bipush (v := 32) hx hb dL_law_739 (by decide) ?_
  refine lv_lshl (v := ((xs (i + 1)).toInt64 <<< ((32 : Int32).toInt64 &&& 63))) hx hb dL_law_741 rfl ?_
  refine lv_aload_n hx hb dL_law_742 rfl (lv_at hl 1 rfl) ?_
  refine lv_iload_n hx hb dL_law_743 rfl (lv_at hl 0 rfl) ?_
  refine lv_iconst (v := 2) hx hb dL_law_744 (by decide) ?_
  refine lv_iadd hx hb dL_law_745 ?_
  refine q_reI (show ((nI i) + 2 : Int32) = nI (i + 2) from nI_add i 2) ?_
  refine va_sld hx hb hX hbl hbA hS (vp_in_nI (by omega) (by omega)) dL_law_746 ?_
  refine q_ildj (f := xs) (by omega) ?_
  refine lv_i2l (v := (xs (i + 2)).toInt64) hx hb dL_law_747 rfl ?_
  refine lv_ldc2 (v := 4294967295) hx hb hown (hts (.constantLong RL 98 (4294967295)) (by decide +kernel)) dL_law_748 ?_
  refine lv_land hx hb dL_law_751 ?_
  refine lv_lor hx hb dL_law_752 ?_
  refine q_VM (As := [.long (((xs (i + 1)).toInt64 <<< ((32 : Int32).toInt64 &&& 63)) ||| ((xs (i + 2)).toInt64 &&& 4294967295))]) (rest := []) (st2 := [.int (putR V (((xs (i + 1)).toInt64 <<< ((32 : Int32).toInt64 &&& 63)) ||| ((xs (i + 2)).toInt64 &&& 4294967295)))]) (c2 := cells) (s2 := slots) ⟨hx, hb, hml, hown, hts⟩ (c_X4_put l g a b V hI (((xs (i + 1)).toInt64 <<< ((32 : Int32).toInt64 &&& 63)) ||| ((xs (i + 2)).toInt64 &&& 4294967295)) hpl) (cwV 1 hts gL_law_X4_put rfl rfl rfl (by decide +kernel) ⟨(Nat.le_of_ble_eq_true rfl), (Nat.le_of_ble_eq_true rfl)⟩) q_B_blind (va_recv hK hP (ci := 3) (q0 := 0) rfl rfl) (q_B_of hP hK hN) rfl hl.1 rfl (Nat.le_of_ble_eq_true rfl) dL_law_753 hc hs hS hAa rfl rfl rfl (fun H locs hP hF hS _ => ?_)
  have hM := q_mdK hM hF hAx
  refine lv_aload_n hx hb dL_law_756 rfl (lv_at hl 3 rfl) ?_
  refine lv_aload_n hx hb dL_law_757 rfl (lv_at hl 1 rfl) ?_
  refine lv_iload_n hx hb dL_law_758 rfl (lv_at hl 0 rfl) ?_
  refine lv_iconst (v := 1) hx hb dL_law_759 (by decide) ?_
  refine lv_iadd hx hb dL_law_760 ?_
  refine q_reI (show ((nI i) + 1 : Int32) = nI (i + 1) from nI_add i 1) ?_
  refine va_sld hx hb hX hbl hbA hS (vp_in_nI (by omega) (by omega)) dL_law_761 ?_
  refine q_ildj (f := xs) (by omega) ?_
  refine lv_i2l (v := (xs (i + 1)).toInt64) hx hb dL_law_762 rfl ?_
  refine lv_bipush (v := 32) hx hb dL_law_763 (by decide) ?_
  refine lv_lshl (v := ((xs (i + 1)).toInt64 <<< ((32 : Int32).toInt64 &&& 63))) hx hb dL_law_765 rfl ?_
  refine lv_aload_n hx hb dL_law_766 rfl (lv_at hl 1 rfl) ?_
  refine lv_iload_n hx hb dL_law_767 rfl (lv_at hl 0 rfl) ?_
  refine lv_iconst (v := 2) hx hb dL_law_768 (by decide) ?_
  refine lv_iadd hx hb dL_law_769 ?_
  refine q_reI (show ((nI i) + 2 : Int32) = nI (i + 2) from nI_add i 2) ?_
  refine va_sld hx hb hX hbl hbA hS (vp_in_nI (by omega) (by omega)) dL_law_770 ?_
  refine q_ildj (f := xs) (by omega) ?_
  refine lv_i2l (v := (xs (i + 2)).toInt64) hx hb dL_law_771 rfl ?_
  refine lv_ldc2 (v := 4294967295) hx hb hown (hts (.constantLong RL 98 (4294967295)) (by decide +kernel)) dL_law_772 ?_
  refine lv_land hx hb dL_law_775 ?_
  refine lv_lor hx hb dL_law_776 ?_
  refine q_VM (As := [.long (((xs (i + 1)).toInt64 <<< ((32 : Int32).toInt64 &&& 63)) ||| ((xs (i + 2)).toInt64 &&& 4294967295))]) (rest := [.int (putR V (((xs (i + 1)).toInt64 <<< ((32 : Int32).toInt64 &&& 63)) ||| ((xs (i + 2)).toInt64 &&& 4294967295)))]) (st2 := [.int (putR V (((xs (i + 1)).toInt64 <<< ((32 : Int32).toInt64 &&& 63)) ||| ((xs (i + 2)).toInt64 &&& 4294967295))), .int (putR V (((xs (i + 1)).toInt64 <<< ((32 : Int32).toInt64 &&& 63)) ||| ((xs (i + 2)).toInt64 &&& 4294967295)))]) (c2 := cells) (s2 := slots) ⟨hx, hb, hml, hown, hts⟩ (c_X5_put l g d M hJ V K hcp hok hK5 hpl hln hpd (((xs (i + 1)).toInt64 <<< ((32 : Int32).toInt64 &&& 63)) ||| ((xs (i + 2)).toInt64 &&& 4294967295)) hst6) (cwV 1 hts gL_law_X5_put rfl rfl rfl (by decide +kernel) ⟨(Nat.le_of_ble_eq_true rfl), (Nat.le_of_ble_eq_true rfl)⟩) q_B_blind (va_recv hK hM (ci := 4) (q0 := 0) rfl rfl) (q_B_of hM hK hN) rfl hl.1 rfl (Nat.le_of_ble_eq_true rfl) dL_law_777 hc hs hS hAd rfl rfl rfl (fun H locs hM hF hS _ => ?_)
  have hP := q_pqK hP hF hAx
  refine lv_icmp_eq (tgt := 870) hx hb dL_law_780 (by decide) (fun _ => ?_) (fun hne => absurd rfl hne)
  exact kk _ _ _ _ (rl_put hr (((xs (i + 1)).toInt64 <<< ((32 : Int32).toInt64 &&& 63)) ||| ((xs (i + 2)).toInt64 &&& 4294967295))) hS hP hM

set_option maxHeartbeats 4000000 in
set_option maxRecDepth 100000 in
theorem law_wipe {p : Program} {l : Launch} {e : Env} {s : State} {m : MethodId} {below : List Frame} {meth : Method} {c : Code} {bs L : Nat} {xs : Nat → Int32} {g : q_G} {a : Nat → Nat → Nat} {b d : Nat → Nat} {K i : Nat} {V : q_CV} {M : q_MV} {cells slots : Nat} {Q : State → Prop} (C0 : lw_C p s m c bs L xs g a b d) (hi : i + 5 ≤ L) (hL : L ≤ 2560) (hK5 : K ≤ 512) (hr : q_rel K V M) {H : Heap} {locs : List Loc} (hS : va_S (fun q : Nat => s.heap.size ≤ q) s.heap H locs) (hP : va_P g.1 vwCl (q_pqW g a b V) H) (hM : va_P g.1 vwCl (q_mdW g d M) H) {ls : Array Slot} (hl : lv_has ls 4 [(3, .int (nI i)), (0, .ref bs), (1, .ref (b 0)), (2, .ref (d 0))]) (hc : cells ≤ 600000) (hs : slots ≤ 7302250) (kk : ∀ (V1 : q_CV) (M1 : q_MV) (H1 : Heap) (locs1 : List Loc), q_rel (K + 1) V1 M1 → va_S (fun q : Nat => s.heap.size ≤ q) s.heap H1 locs1 → va_P g.1 vwCl (q_pqW g a b V1) H1 → va_P g.1 vwCl (q_mdW g d M1) H1 → W p l e room_1 s m #[Value.ref bs] below meth c H1 locs1 cells slots Q (F0 m 870 ls [])) : W p l e room_1 s m #[Value.ref bs] below meth c H locs cells slots Q (F0 m 785 ls []) := by
  obtain ⟨hx, hb, hml, hown, hts, hX, hbl, hK, hN, hT, hI, hJ, hAa, hAd, hAx⟩ := C0
  have hbA : ¬ (fun q : Nat => s.heap.size ≤ q) bs := Nat.not_le.mpr hbl
  obtain ⟨⟨hcp, hok⟩, ⟨hpl, hln, hpd⟩, ⟨hst, hh6, hn6, hH⟩, hSl⟩ := id hr
  have hn10 := ok_n hok
  have hst6 : m_st M ≤ 6 := by omega
  refine lv_aload_n hx hb dL_law_785 rfl (lv_at hl 2 rfl) ?_
  refine q_VM (As := []) (rest := []) (st2 := [.int (nI (v_pl V))]) (c2 := cells) (s2 := slots) ⟨hx, hb, hml, hown, hts⟩ (c_X4_wipe l g a b V hI) (cwV 0 hts gL_law_X4_wipe rfl rfl rfl (by decide +kernel) ⟨(Nat.le_of_ble_eq_true rfl), (Nat.le_of_ble_eq_true rfl)⟩) q_B_blind (va_recv hK hP (ci := 3) (q0 := 0) rfl rfl) (q_B_of hP hK hN) rfl hl.1 rfl (Nat.le_of_ble_eq_true rfl) dL_law_786 hc hs hS hAa rfl rfl rfl (fun H locs hP hF hS _ => ?_)
  have hM := q_mdK hM hF hAx
  refine lv_aload_n hx hb dL_law_789 rfl (lv_at hl 3 rfl) ?_
  refine q_VM (As := []) (rest := [.int (nI (v_pl V))]) (st2 := [.int (nI (m_len M)), .int (nI (v_pl V))]) (c2 := cells) (s2 := slots) ⟨hx, hb, hml, hown, hts⟩ (c_X5_wipe l g d M hJ) (cwV 0 hts gL_law_X5_wipe rfl rfl rfl (by decide +kernel) ⟨(Nat.le_of_ble_eq_true rfl), (Nat.le_of_ble_eq_true rfl)⟩) q_B_blind (va_recv hK hM (ci := 4) (q0 := 0) rfl rfl) (q_B_of hM hK hN) rfl hl.1 rfl (Nat.le_of_ble_eq_true rfl) dL_law_790 hc hs hS hAd rfl rfl rfl (fun H locs hM hF hS _ => ?_)
  have hP := q_pqK hP hF hAx
  refine q_reI (show (nI (m_len M) : Int32) = nI (v_pl V) from by rw [hln]) ?_
  refine lv_icmp_eq (tgt := 870) hx hb dL_law_793 (by decide) (fun _ => ?_) (fun hne => absurd rfl hne)
  exact kk _ _ _ _ (rl_wip hr) hS hP hM

set_option maxHeartbeats 4000000 in
set_option maxRecDepth 100000 in
theorem law_fault {p : Program} {l : Launch} {e : Env} {s : State} {m : MethodId} {below : List Frame} {meth : Method} {c : Code} {bs L : Nat} {xs : Nat → Int32} {g : q_G} {a : Nat → Nat → Nat} {b d : Nat → Nat} {K i : Nat} {V : q_CV} {M : q_MV} {cells slots : Nat} {Q : State → Prop} (C0 : lw_C p s m c bs L xs g a b d) (hi : i + 5 ≤ L) (hL : L ≤ 2560) (hK5 : K ≤ 512) (hr : q_rel K V M) {H : Heap} {locs : List Loc} (hS : va_S (fun q : Nat => s.heap.size ≤ q) s.heap H locs) (hP : va_P g.1 vwCl (q_pqW g a b V) H) (hM : va_P g.1 vwCl (q_mdW g d M) H) {ls : Array Slot} (hl : lv_has ls 4 [(3, .int (nI i)), (0, .ref bs), (1, .ref (b 0)), (2, .ref (d 0))]) (hc : cells ≤ 600000) (hs : slots ≤ 7302250) (kk : ∀ (V1 : q_CV) (M1 : q_MV) (H1 : Heap) (locs1 : List Loc), q_rel (K + 1) V1 M1 → va_S (fun q : Nat => s.heap.size ≤ q) s.heap H1 locs1 → va_P g.1 vwCl (q_pqW g a b V1) H1 → va_P g.1 vwCl (q_mdW g d M1) H1 → W p l e room_1 s m #[Value.ref bs] below meth c H1 locs1 cells slots Q (F0 m 870 ls [])) : W p l e room_1 s m #[Value.ref bs] below meth c H locs cells slots Q (F0 m 798 ls []) := by
  obtain ⟨hx, hb, hml, hown, hts, hX, hbl, hK, hN, hT, hI, hJ, hAa, hAd, hAx⟩ := C0
  have hbA : ¬ (fun q : Nat => s.heap.size ≤ q) bs := Nat.not_le.mpr hbl
  obtain ⟨⟨hcp, hok⟩, ⟨hpl, hln, hpd⟩, ⟨hst, hh6, hn6, hH⟩, hSl⟩ := id hr
  have hn10 := ok_n hok
  have hst6 : m_st M ≤ 6 := by omega
  refine lv_aload_n hx hb dL_law_798 rfl (lv_at hl 2 rfl) ?_
  refine q_V (As := []) (rest := []) ⟨hx, hb, hml, hown, hts⟩ (c_X4_fault l g a b V hpl) (cwV 0 hts gL_law_X4_fault rfl rfl rfl (by decide +kernel) ⟨(Nat.le_of_ble_eq_true rfl), (Nat.le_of_ble_eq_true rfl)⟩) q_B_blind (va_recv hK hP (ci := 3) (q0 := 0) rfl rfl) (q_B_of hP hK hN) rfl hl.1 rfl (Nat.le_of_ble_eq_true rfl) dL_law_799 hc hs ?_
  refine lv_aload_n hx hb dL_law_802 rfl (lv_at hl 3 rfl) ?_
  refine q_V (As := []) (rest := [.int (fauI (v_pc V) (v_pl V))]) ⟨hx, hb, hml, hown, hts⟩ (c_X5_fault l g d M (v_pc V) (v_pl V) hpl hln hpd) (cwV 0 hts gL_law_X5_fault rfl rfl rfl (by decide +kernel) ⟨(Nat.le_of_ble_eq_true rfl), (Nat.le_of_ble_eq_true rfl)⟩) q_B_blind (va_recv hK hM (ci := 4) (q0 := 0) rfl rfl) (q_B_of hM hK hN) rfl hl.1 rfl (Nat.le_of_ble_eq_true rfl) dL_law_803 hc hs ?_
  refine lv_icmp_eq (tgt := 870) hx hb dL_law_806 (by decide) (fun _ => ?_) (fun hne => absurd rfl hne)
  exact kk _ _ _ _ (rl_up hr) hS hP hM

set_option maxHeartbeats 4000000 in
set_option maxRecDepth 100000 in
theorem law_undo {p : Program} {l : Launch} {e : Env} {s : State} {m : MethodId} {below : List Frame} {meth : Method} {c : Code} {bs L : Nat} {xs : Nat → Int32} {g : q_G} {a : Nat → Nat → Nat} {b d : Nat → Nat} {K i : Nat} {V : q_CV} {M : q_MV} {cells slots : Nat} {Q : State → Prop} (C0 : lw_C p s m c bs L xs g a b d) (hi : i + 5 ≤ L) (hL : L ≤ 2560) (hK5 : K ≤ 512) (hr : q_rel K V M) {H : Heap} {locs : List Loc} (hS : va_S (fun q : Nat => s.heap.size ≤ q) s.heap H locs) (hP : va_P g.1 vwCl (q_pqW g a b V) H) (hM : va_P g.1 vwCl (q_mdW g d M) H) {ls : Array Slot} (hl : lv_has ls 4 [(3, .int (nI i)), (0, .ref bs), (1, .ref (b 0)), (2, .ref (d 0))]) (hc : cells ≤ 600000) (hs : slots ≤ 7302250) (kk : ∀ (V1 : q_CV) (M1 : q_MV) (H1 : Heap) (locs1 : List Loc), q_rel (K + 1) V1 M1 → va_S (fun q : Nat => s.heap.size ≤ q) s.heap H1 locs1 → va_P g.1 vwCl (q_pqW g a b V1) H1 → va_P g.1 vwCl (q_mdW g d M1) H1 → W p l e room_1 s m #[Value.ref bs] below meth c H1 locs1 cells slots Q (F0 m 870 ls [])) : W p l e room_1 s m #[Value.ref bs] below meth c H locs cells slots Q (F0 m 811 ls []) := by
  obtain ⟨hx, hb, hml, hown, hts, hX, hbl, hK, hN, hT, hI, hJ, hAa, hAd, hAx⟩ := C0
  have hbA : ¬ (fun q : Nat => s.heap.size ≤ q) bs := Nat.not_le.mpr hbl
  obtain ⟨⟨hcp, hok⟩, ⟨hpl, hln, hpd⟩, ⟨hst, hh6, hn6, hH⟩, hSl⟩ := id hr
  have hn10 := ok_n hok
  have hst6 : m_st M ≤ 6 := by omega
  refine lv_aload_n hx hb dL_law_811 rfl (lv_at hl 2 rfl) ?_
  refine q_VM (As := []) (rest := []) (st2 := [.int (undR V)]) (c2 := cells) (s2 := slots) ⟨hx, hb, hml, hown, hts⟩ (c_X4_undo l g a b V hI hn6 hh6) (cwV 0 hts gL_law_X4_undo rfl rfl rfl (by decide +kernel) ⟨(Nat.le_of_ble_eq_true rfl), (Nat.le_of_ble_eq_true rfl)⟩) q_B_blind (va_recv hK hP (ci := 3) (q0 := 0) rfl rfl) (q_B_of hP hK hN) rfl hl.1 rfl (Nat.le_of_ble_eq_true rfl) dL_law_812 hc hs hS hAa rfl rfl rfl (fun H locs hP hF hS _ => ?_)
  have hM := q_mdK hM hF hAx
  refine lv_aload_n hx hb dL_law_815 rfl (lv_at hl 3 rfl) ?_
  refine q_VM (As := []) (rest := [.int (undR V)]) (st2 := [.int (undR V), .int (undR V)]) (c2 := cells) (s2 := slots) ⟨hx, hb, hml, hown, hts⟩ (c_X5_undo l g d M hJ V K hcp hok hK5 hst6 hst) (cwV 0 hts gL_law_X5_undo rfl rfl rfl (by decide +kernel) ⟨(Nat.le_of_ble_eq_true rfl), (Nat.le_of_ble_eq_true rfl)⟩) q_B_blind (va_recv hK hM (ci := 4) (q0 := 0) rfl rfl) (q_B_of hM hK hN) rfl hl.1 rfl (Nat.le_of_ble_eq_true rfl) dL_law_816 hc hs hS hAd rfl rfl rfl (fun H locs hM hF hS _ => ?_)
  have hP := q_pqK hP hF hAx
  refine lv_icmp_eq (tgt := 870) hx hb dL_law_819 (by decide) (fun _ => ?_) (fun hne => absurd rfl hne)
  exact kk _ _ _ _ (rl_und hr) hS hP hM

set_option maxHeartbeats 4000000 in
set_option maxRecDepth 100000 in
theorem law_save {p : Program} {l : Launch} {e : Env} {s : State} {m : MethodId} {below : List Frame} {meth : Method} {c : Code} {bs L : Nat} {xs : Nat → Int32} {g : q_G} {a : Nat → Nat → Nat} {b d : Nat → Nat} {K i : Nat} {V : q_CV} {M : q_MV} {cells slots : Nat} {Q : State → Prop} (C0 : lw_C p s m c bs L xs g a b d) (hi : i + 5 ≤ L) (hL : L ≤ 2560) (hK5 : K ≤ 512) (hr : q_rel K V M) {H : Heap} {locs : List Loc} (hS : va_S (fun q : Nat => s.heap.size ≤ q) s.heap H locs) (hP : va_P g.1 vwCl (q_pqW g a b V) H) (hM : va_P g.1 vwCl (q_mdW g d M) H) {ls : Array Slot} (hl : lv_has ls 4 [(3, .int (nI i)), (0, .ref bs), (1, .ref (b 0)), (2, .ref (d 0))]) (hc : cells ≤ 600000) (hs : slots ≤ 7302250) (kk : ∀ (V1 : q_CV) (M1 : q_MV) (H1 : Heap) (locs1 : List Loc), q_rel (K + 1) V1 M1 → va_S (fun q : Nat => s.heap.size ≤ q) s.heap H1 locs1 → va_P g.1 vwCl (q_pqW g a b V1) H1 → va_P g.1 vwCl (q_mdW g d M1) H1 → W p l e room_1 s m #[Value.ref bs] below meth c H1 locs1 cells slots Q (F0 m 870 ls [])) : W p l e room_1 s m #[Value.ref bs] below meth c H locs cells slots Q (F0 m 824 ls []) := by
  obtain ⟨hx, hb, hml, hown, hts, hX, hbl, hK, hN, hT, hI, hJ, hAa, hAd, hAx⟩ := C0
  have hbA : ¬ (fun q : Nat => s.heap.size ≤ q) bs := Nat.not_le.mpr hbl
  obtain ⟨⟨hcp, hok⟩, ⟨hpl, hln, hpd⟩, ⟨hst, hh6, hn6, hH⟩, hSl⟩ := id hr
  have hn10 := ok_n hok
  have hst6 : m_st M ≤ 6 := by omega
  refine lv_aload_n hx hb dL_law_824 rfl (lv_at hl 2 rfl) ?_
  refine lv_aload_n hx hb dL_law_825 rfl (lv_at hl 1 rfl) ?_
  refine lv_iload_n hx hb dL_law_826 rfl (lv_at hl 0 rfl) ?_
  refine lv_iconst (v := 1) hx hb dL_law_827 (by decide) ?_
  refine lv_iadd hx hb dL_law_828 ?_
  refine q_reI (show ((nI i) + 1 : Int32) = nI (i + 1) from nI_add i 1) ?_
  refine va_sld hx hb hX hbl hbA hS (vp_in_nI (by omega) (by omega)) dL_law_829 ?_
  refine q_ildj (f := xs) (by omega) ?_
  refine q_VM (As := [.int (xs (i + 1))]) (rest := []) (st2 := [.int (savR V (xs (i + 1)))]) (c2 := cells) (s2 := slots) ⟨hx, hb, hml, hown, hts⟩ (c_X4_save l g a b V hI (xs (i + 1))) (cwV 1 hts gL_law_X4_save rfl rfl rfl (by decide +kernel) ⟨(Nat.le_of_ble_eq_true rfl), (Nat.le_of_ble_eq_true rfl)⟩) q_B_blind (va_recv hK hP (ci := 3) (q0 := 0) rfl rfl) (q_B_of hP hK hN) rfl hl.1 rfl (Nat.le_of_ble_eq_true rfl) dL_law_830 hc hs hS hAa rfl rfl rfl (fun H locs hP hF hS _ => ?_)
  have hM := q_mdK hM hF hAx
  refine lv_aload_n hx hb dL_law_833 rfl (lv_at hl 3 rfl) ?_
  refine lv_aload_n hx hb dL_law_834 rfl (lv_at hl 1 rfl) ?_
  refine lv_iload_n hx hb dL_law_835 rfl (lv_at hl 0 rfl) ?_
  refine lv_iconst (v := 1) hx hb dL_law_836 (by decide) ?_
  refine lv_iadd hx hb dL_law_837 ?_
  refine q_reI (show ((nI i) + 1 : Int32) = nI (i + 1) from nI_add i 1) ?_
  refine va_sld hx hb hX hbl hbA hS (vp_in_nI (by omega) (by omega)) dL_law_838 ?_
  refine q_ildj (f := xs) (by omega) ?_
  refine q_VM (As := [.int (xs (i + 1))]) (rest := [.int (savR V (xs (i + 1)))]) (st2 := [.int (savR V (xs (i + 1))), .int (savR V (xs (i + 1)))]) (c2 := cells) (s2 := slots) ⟨hx, hb, hml, hown, hts⟩ (c_X5_save l g d M hJ V K hcp hok hK5 (xs (i + 1)) hst6) (cwV 1 hts gL_law_X5_save rfl rfl rfl (by decide +kernel) ⟨(Nat.le_of_ble_eq_true rfl), (Nat.le_of_ble_eq_true rfl)⟩) q_B_blind (va_recv hK hM (ci := 4) (q0 := 0) rfl rfl) (q_B_of hM hK hN) rfl hl.1 rfl (Nat.le_of_ble_eq_true rfl) dL_law_839 hc hs hS hAd rfl rfl rfl (fun H locs hM hF hS _ => ?_)
  have hP := q_pqK hP hF hAx
  refine lv_icmp_eq (tgt := 870) hx hb dL_law_842 (by decide) (fun _ => ?_) (fun hne => absurd rfl hne)
  exact kk _ _ _ _ (rl_sav hr (xs (i + 1))) hS hP hM

set_option maxHeartbeats 4000000 in
set_option maxRecDepth 100000 in
theorem law_restore {p : Program} {l : Launch} {e : Env} {s : State} {m : MethodId} {below : List Frame} {meth : Method} {c : Code} {bs L : Nat} {xs : Nat → Int32} {g : q_G} {a : Nat → Nat → Nat} {b d : Nat → Nat} {K i : Nat} {V : q_CV} {M : q_MV} {cells slots : Nat} {Q : State → Prop} (C0 : lw_C p s m c bs L xs g a b d) (hi : i + 5 ≤ L) (hL : L ≤ 2560) (hK5 : K ≤ 512) (hr : q_rel K V M) {H : Heap} {locs : List Loc} (hS : va_S (fun q : Nat => s.heap.size ≤ q) s.heap H locs) (hP : va_P g.1 vwCl (q_pqW g a b V) H) (hM : va_P g.1 vwCl (q_mdW g d M) H) {ls : Array Slot} (hl : lv_has ls 4 [(3, .int (nI i)), (0, .ref bs), (1, .ref (b 0)), (2, .ref (d 0))]) (hc : cells ≤ 600000) (hs : slots ≤ 7302250) (kk : ∀ (V1 : q_CV) (M1 : q_MV) (H1 : Heap) (locs1 : List Loc), q_rel (K + 1) V1 M1 → va_S (fun q : Nat => s.heap.size ≤ q) s.heap H1 locs1 → va_P g.1 vwCl (q_pqW g a b V1) H1 → va_P g.1 vwCl (q_mdW g d M1) H1 → W p l e room_1 s m #[Value.ref bs] below meth c H1 locs1 cells slots Q (F0 m 870 ls [])) : W p l e room_1 s m #[Value.ref bs] below meth c H locs cells slots Q (F0 m 847 ls []) := by
  obtain ⟨hx, hb, hml, hown, hts, hX, hbl, hK, hN, hT, hI, hJ, hAa, hAd, hAx⟩ := C0
  have hbA : ¬ (fun q : Nat => s.heap.size ≤ q) bs := Nat.not_le.mpr hbl
  obtain ⟨⟨hcp, hok⟩, ⟨hpl, hln, hpd⟩, ⟨hst, hh6, hn6, hH⟩, hSl⟩ := id hr
  have hn10 := ok_n hok
  have hst6 : m_st M ≤ 6 := by omega
  refine lv_aload_n hx hb dL_law_847 rfl (lv_at hl 2 rfl) ?_
  refine lv_aload_n hx hb dL_law_848 rfl (lv_at hl 1 rfl) ?_
  refine lv_iload_n hx hb dL_law_849 rfl (lv_at hl 0 rfl) ?_
  refine lv_iconst (v := 1) hx hb dL_law_850 (by decide) ?_
  refine lv_iadd hx hb dL_law_851 ?_
  refine q_reI (show ((nI i) + 1 : Int32) = nI (i + 1) from nI_add i 1) ?_
  refine va_sld hx hb hX hbl hbA hS (vp_in_nI (by omega) (by omega)) dL_law_852 ?_
  refine q_ildj (f := xs) (by omega) ?_
  refine q_VM (As := [.int (xs (i + 1))]) (rest := []) (st2 := [.int (resR V (xs (i + 1)))]) (c2 := cells) (s2 := slots) ⟨hx, hb, hml, hown, hts⟩ (c_X4_restore l g a b V hI (xs (i + 1)) hn6 hh6) (cwV 1 hts gL_law_X4_restore rfl rfl rfl (by decide +kernel) ⟨(Nat.le_of_ble_eq_true rfl), (Nat.le_of_ble_eq_true rfl)⟩) q_B_blind (va_recv hK hP (ci := 3) (q0 := 0) rfl rfl) (q_B_of hP hK hN) rfl hl.1 rfl (Nat.le_of_ble_eq_true rfl) dL_law_853 hc hs hS hAa rfl rfl rfl (fun H locs hP hF hS _ => ?_)
  have hM := q_mdK hM hF hAx
  refine lv_aload_n hx hb dL_law_856 rfl (lv_at hl 3 rfl) ?_
  refine lv_aload_n hx hb dL_law_857 rfl (lv_at hl 1 rfl) ?_
  refine lv_iload_n hx hb dL_law_858 rfl (lv_at hl 0 rfl) ?_
  refine lv_iconst (v := 1) hx hb dL_law_859 (by decide) ?_
  refine lv_iadd hx hb dL_law_860 ?_
  refine q_reI (show ((nI i) + 1 : Int32) = nI (i + 1) from nI_add i 1) ?_
  refine va_sld hx hb hX hbl hbA hS (vp_in_nI (by omega) (by omega)) dL_law_861 ?_
  refine q_ildj (f := xs) (by omega) ?_
  refine q_VM (As := [.int (xs (i + 1))]) (rest := [.int (resR V (xs (i + 1)))]) (st2 := [.int (resR V (xs (i + 1))), .int (resR V (xs (i + 1)))]) (c2 := cells) (s2 := slots) ⟨hx, hb, hml, hown, hts⟩ (c_X5_restore l g d M hJ V K hcp hok hK5 (xs (i + 1)) hst6 (fun q1 q2 => (hSl q1 q2).1) (fun q1 q2 q3 => cp_n ((hSl q1 q2).2 q3).1)) (cwV 1 hts gL_law_X5_restore rfl rfl rfl (by decide +kernel) ⟨(Nat.le_of_ble_eq_true rfl), (Nat.le_of_ble_eq_true rfl)⟩) q_B_blind (va_recv hK hM (ci := 4) (q0 := 0) rfl rfl) (q_B_of hM hK hN) rfl hl.1 rfl (Nat.le_of_ble_eq_true rfl) dL_law_862 hc hs hS hAd rfl rfl rfl (fun H locs hM hF hS _ => ?_)
  have hP := q_pqK hP hF hAx
  refine lv_icmp_eq (tgt := 870) hx hb dL_law_865 (by decide) (fun _ => ?_) (fun hne => absurd rfl hne)
  exact kk _ _ _ _ (rl_res hr (xs (i + 1))) hS hP hM
