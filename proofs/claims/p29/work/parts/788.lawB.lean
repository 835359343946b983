/-! the law from its first call on -/
set_option maxHeartbeats 40000000 in
set_option maxRecDepth 100000 in
theorem law_body {p : Program} {l : Launch} {e : Env} {s : State} {m : MethodId} {below : List Frame} {meth : Method} {c : Code} {bs L : Nat} {xs : Nat → Int32} {g : q_G} {a : Nat → Nat → Nat} {b : Nat → Nat} (hL : L ≤ 260) (hret : meth.sig.returnType = ret) (hlk : meth.locks = false) (C0 : lw_C p s m c bs L xs g a b) {H : Heap} {locs : List Loc} (hS : va_S (fun q : Nat => s.heap.size ≤ q) s.heap H locs) (hP : va_P g.1 vwCl (q_pqW g a b q_V0) H) {ls : Array Slot} (hl : lv_has ls 5 [(1, .ref (b 0)), (0, .ref bs)]) : W p l e room_1 s m #[Value.ref bs] below meth c H locs 106 2908 (lw_Z below #[Value.ref bs] s) (F0 m 8 ls []) := by
  obtain ⟨hx, hb, hml, hown, hts, hX, hbl, hK, hN, hT, hI, hAa⟩ := C0
  have hbA : ¬ (fun q : Nat => s.heap.size ≤ q) bs := Nat.not_le.mpr hbl
  have hc : (106 : Nat) ≤ 600000 := Nat.le_of_ble_eq_true rfl
  have hs : (2908 : Nat) ≤ 7302250 := Nat.le_of_ble_eq_true rfl
  obtain ⟨w0a, w0b, w0c, w0d⟩ := z_w0
  obtain ⟨w1a, w1b, w1c, w1d⟩ := z_w1
  obtain ⟨w2a, w2b, w2c, w2d⟩ := z_w2
  refine lv_aload_n hx hb dL_law_8 rfl (lv_at hl 0 rfl) ?_
  refine q_VM (As := []) (rest := []) (st2 := [.int (undR q_V0)]) (c2 := 106) (s2 := 2908) ⟨hx, hb, hml, hown, hts⟩ (c_X4_undo l g a b q_V0 hI  (by first | omega | assumption) (by first | omega | assumption)) (cwV 0 hts gL_law_X4_undo rfl rfl rfl (by decide +kernel) ⟨Nat.le_of_ble_eq_true rfl, Nat.le_of_ble_eq_true rfl⟩) q_B_blind (va_recv hK hP (ci := 3) (q0 := 0) rfl rfl) (q_B_of hP hK hN) rfl hl.1 rfl (Nat.le_of_ble_eq_true rfl) dL_law_9 hc hs hS hAa rfl rfl rfl (fun H locs hP _ hS _ => ?_)
  have hP : va_P g.1 vwCl (q_pqW g a b (undV q_V0)) H := hP
  refine lv_bipush (v := (-5)) hx hb dL_law_12 (by decide) ?_
  refine lv_icmp_ne (tgt := 80) hx hb dL_law_14 (by decide) (fun c_14 => ?_) (fun c_14 => ?_)
  · skip
    refine (c_14 ?_).elim; exact z_und.1
  · skip
    have eV : undV q_V0 = q_V0 := z_und.2
    rw [eV] at hP
    have hP : va_P g.1 vwCl (q_pqW g a b q_V0) H := hP
    refine lv_aload_n hx hb dL_law_17 rfl (lv_at hl 0 rfl) ?_
    refine lv_iconst (v := 0) hx hb dL_law_18 (by decide) ?_
    refine q_VM (As := [.int 0]) (rest := []) (st2 := [.int (resR q_V0 0)]) (c2 := 106) (s2 := 2908) ⟨hx, hb, hml, hown, hts⟩ (c_X4_restore l g a b q_V0 hI 0 (by first | omega | assumption) (by first | omega | assumption)) (cwV 1 hts gL_law_X4_restore rfl rfl rfl (by decide +kernel) ⟨Nat.le_of_ble_eq_true rfl, Nat.le_of_ble_eq_true rfl⟩) q_B_blind (va_recv hK hP (ci := 3) (q0 := 0) rfl rfl) (q_B_of hP hK hN) rfl hl.1 rfl (Nat.le_of_ble_eq_true rfl) dL_law_19 hc hs hS hAa rfl rfl rfl (fun H locs hP _ hS _ => ?_)
    have hP : va_P g.1 vwCl (q_pqW g a b (resV q_V0 0)) H := hP
    refine lv_bipush (v := (-5)) hx hb dL_law_22 (by decide) ?_
    refine lv_icmp_ne (tgt := 80) hx hb dL_law_24 (by decide) (fun c_24 => ?_) (fun c_24 => ?_)
    · skip
      refine (c_24 ?_).elim; exact z_res.1
    · skip
      have eV : resV q_V0 0 = q_V0 := z_res.2
      rw [eV] at hP
      have hP : va_P g.1 vwCl (q_pqW g a b q_V0) H := hP
      refine lv_aload_n hx hb dL_law_27 rfl (lv_at hl 0 rfl) ?_
      refine q_V (As := []) (rest := []) ⟨hx, hb, hml, hown, hts⟩ (c_X4_canWin l g a b q_V0  (by first | omega | assumption)) (cwV 0 hts gL_law_X4_canWin rfl rfl rfl (by decide +kernel) ⟨Nat.le_of_ble_eq_true rfl, Nat.le_of_ble_eq_true rfl⟩) q_B_blind (va_recv hK hP (ci := 3) (q0 := 0) rfl rfl) (q_B_of hP hK hN) rfl hl.1 rfl (Nat.le_of_ble_eq_true rfl) dL_law_28 hc hs ?_
      refine lv_if_ne (tgt := 80) hx hb dL_law_31 (by decide) (fun c_31 => ?_) (fun c_31 => ?_)
      · skip
        refine (c_31 ?_).elim; exact z_can
      · skip
        refine lv_aload_n hx hb dL_law_34 rfl (lv_at hl 0 rfl) ?_
        refine lv_iconst (v := 0) hx hb dL_law_35 (by decide) ?_
        refine lv_iconst (v := 5) hx hb dL_law_36 (by decide) ?_
        refine q_V (As := [.int 0, .int 5]) (rest := []) ⟨hx, hb, hml, hown, hts⟩ (c_X4_ofRound l g a b q_V0 0 5 (by first | omega | assumption)) (cwV 2 hts gL_law_X4_ofRound rfl rfl rfl (by decide +kernel) ⟨Nat.le_of_ble_eq_true rfl, Nat.le_of_ble_eq_true rfl⟩) q_B_blind (va_recv hK hP (ci := 3) (q0 := 0) rfl rfl) (q_B_of hP hK hN) rfl hl.1 rfl (Nat.le_of_ble_eq_true rfl) dL_law_37 hc hs ?_
        refine lv_bipush (v := (-6)) hx hb dL_law_40 (by decide) ?_
        refine lv_icmp_ne (tgt := 80) hx hb dL_law_42 (by decide) (fun c_42 => ?_) (fun c_42 => ?_)
        · skip
          refine (c_42 ?_).elim; exact z_ofr
        · skip
          refine lv_aload_n hx hb dL_law_45 rfl (lv_at hl 0 rfl) ?_
          refine lv_iconst (v := 3) hx hb dL_law_46 (by decide) ?_
          refine q_V (As := [.int 3]) (rest := []) ⟨hx, hb, hml, hown, hts⟩ (c_X4_count l g a b q_V0 3 (by first | omega | assumption)) (cwV 1 hts gL_law_X4_count rfl rfl rfl (by decide +kernel) ⟨Nat.le_of_ble_eq_true rfl, Nat.le_of_ble_eq_true rfl⟩) q_B_blind (va_recv hK hP (ci := 3) (q0 := 0) rfl rfl) (q_B_of hP hK hN) rfl hl.1 rfl (Nat.le_of_ble_eq_true rfl) dL_law_47 hc hs ?_
          refine lv_if_ne (tgt := 80) hx hb dL_law_50 (by decide) (fun c_50 => ?_) (fun c_50 => ?_)
          · skip
            refine (c_50 ?_).elim; exact z_cou
          · skip
            refine lv_aload_n hx hb dL_law_53 rfl (lv_at hl 0 rfl) ?_
            refine q_VM (As := []) (rest := []) (st2 := [.int (teaR q_V0)]) (c2 := 106) (s2 := 2908) ⟨hx, hb, hml, hown, hts⟩ (c_X4_team l g a b q_V0 hI  (by first | omega | assumption) (by first | omega | assumption) (by first | omega | assumption)) (cwV 0 hts gL_law_X4_team rfl rfl rfl (by decide +kernel) ⟨Nat.le_of_ble_eq_true rfl, Nat.le_of_ble_eq_true rfl⟩) q_B_blind (va_recv hK hP (ci := 3) (q0 := 0) rfl rfl) (q_B_of hP hK hN) rfl hl.1 rfl (Nat.le_of_ble_eq_true rfl) dL_law_54 hc hs hS hAa rfl rfl rfl (fun H locs hP _ hS _ => ?_)
            have hP : va_P g.1 vwCl (q_pqW g a b (teaV q_V0)) H := hP
            refine lv_if_ne (tgt := 80) hx hb dL_law_57 (by decide) (fun c_57 => ?_) (fun c_57 => ?_)
            · skip
              refine (c_57 ?_).elim; exact z_t1.1
            · skip
              have eV : teaV q_V0 = z_V1 := z_t1.2
              rw [eV] at hP
              have hP : va_P g.1 vwCl (q_pqW g a b z_V1) H := hP
              refine lv_aload_n hx hb dL_law_60 rfl (lv_at hl 0 rfl) ?_
              refine q_VM (As := []) (rest := []) (st2 := [.int (teaR z_V1)]) (c2 := 106) (s2 := 2908) ⟨hx, hb, hml, hown, hts⟩ (c_X4_team l g a b z_V1 hI  (by first | omega | assumption) (by first | omega | assumption) (by first | omega | assumption)) (cwV 0 hts gL_law_X4_team rfl rfl rfl (by decide +kernel) ⟨Nat.le_of_ble_eq_true rfl, Nat.le_of_ble_eq_true rfl⟩) q_B_blind (va_recv hK hP (ci := 3) (q0 := 0) rfl rfl) (q_B_of hP hK hN) rfl hl.1 rfl (Nat.le_of_ble_eq_true rfl) dL_law_61 hc hs hS hAa rfl rfl rfl (fun H locs hP _ hS _ => ?_)
              have hP : va_P g.1 vwCl (q_pqW g a b (teaV z_V1)) H := hP
              refine lv_iconst (v := 1) hx hb dL_law_64 (by decide) ?_
              refine lv_icmp_ne (tgt := 80) hx hb dL_law_65 (by decide) (fun c_65 => ?_) (fun c_65 => ?_)
              · skip
                refine (c_65 ?_).elim; exact z_t2.1
              · skip
                have eV : teaV z_V1 = z_V2 := z_t2.2
                rw [eV] at hP
                have hP : va_P g.1 vwCl (q_pqW g a b z_V2) H := hP
                refine lv_aload_n hx hb dL_law_68 rfl (lv_at hl 0 rfl) ?_
                refine q_VM (As := []) (rest := []) (st2 := [.int (teaR z_V2)]) (c2 := 106) (s2 := 2908) ⟨hx, hb, hml, hown, hts⟩ (c_X4_team l g a b z_V2 hI  (by first | omega | assumption) (by first | omega | assumption) (by first | omega | assumption)) (cwV 0 hts gL_law_X4_team rfl rfl rfl (by decide +kernel) ⟨Nat.le_of_ble_eq_true rfl, Nat.le_of_ble_eq_true rfl⟩) q_B_blind (va_recv hK hP (ci := 3) (q0 := 0) rfl rfl) (q_B_of hP hK hN) rfl hl.1 rfl (Nat.le_of_ble_eq_true rfl) dL_law_69 hc hs hS hAa rfl rfl rfl (fun H locs hP _ hS _ => ?_)
                have hP : va_P g.1 vwCl (q_pqW g a b (teaV z_V2)) H := hP
                refine lv_iconst (v := 2) hx hb dL_law_72 (by decide) ?_
                refine lv_icmp_ne (tgt := 80) hx hb dL_law_73 (by decide) (fun c_73 => ?_) (fun c_73 => ?_)
                · skip
                  refine (c_73 ?_).elim; exact z_t3.1
                · skip
                  have eV : teaV z_V2 = z_V3 := z_t3.2
                  rw [eV] at hP
                  have hP : va_P g.1 vwCl (q_pqW g a b z_V3) H := hP
                  refine lv_iconst (v := 1) hx hb dL_law_76 (by decide) ?_
                  refine lv_goto (tgt := 81) hx hb dL_law_77 (by decide) ?_
                  refine lv_istore_n (lv' := [(2, .int 1), (1, .ref (b 0)), (0, .ref bs)]) hx hb dL_law_81 rfl hl (by decide) rfl (fun ls hl => ?_)
                  refine lv_iconst (v := 0) hx hb dL_law_82 (by decide) ?_
                  refine lv_istore_n (lv' := [(3, .int 0), (2, .int 1), (1, .ref (b 0)), (0, .ref bs)]) hx hb dL_law_83 rfl hl (by decide) rfl (fun ls hl => ?_)
                  have L_84 : ∀ (fu i84 : Nat) (H : Heap) (locs : List Loc), va_P g.1 vwCl (q_pqW g a b (lawV L xs i84)) H → va_S (fun q : Nat => s.heap.size ≤ q) s.heap H locs → i84 ≤ 46 → 46 < i84 + fu → ∀ ls : Array Slot, lv_has ls 5 [(3, .int (nI i84)), (2, .int 1), (1, .ref (b 0)), (0, .ref bs)] → W p l e room_1 s m #[Value.ref bs] below meth c H locs 106 2908 (lw_Z below #[Value.ref bs] s) (F0 m 84 ls []) := by
                    intro fu
                    induction fu with
                    | zero => intro i84 H locs hP hS hi_i84 hn_i84; exact absurd hn_i84 (by omega)
                    | succ fu ih_i84 =>
                      intro i84 H locs hP hS hi_i84 hn_i84 ls hl
                      refine lv_iload_n hx hb dL_law_84 rfl (lv_at hl 0 rfl) ?_
                      refine lv_bipush (v := 46) hx hb dL_law_85 (by decide) ?_
                      refine lv_icmp_ge (tgt := 132) hx hb dL_law_87 (by decide) (fun c_87 => ?_) (fun c_87 => ?_)
                      · skip
                        have e_87 : i84 = 46 := q_ge_T (by omega) hi_i84 c_87
                        subst e_87
                        have hv := iv_law L xs 46
                        obtain ⟨ho, hpx, hpl, hh6, hn6⟩ := id hv
                        have hn10 := ok_n ho
                        have hn3 := hpx.1
                        refine lv_aload_n hx hb dL_law_132 rfl (lv_at hl 2 rfl) ?_
                        refine lv_iconst (v := 0) hx hb dL_law_133 (by decide) ?_
                        refine q_V (As := [.int 0]) (rest := []) ⟨hx, hb, hml, hown, hts⟩ (c_X4_count l g a b (lawV L xs 46) 0 (by first | omega | assumption)) (cwV 1 hts gL_law_X4_count rfl rfl rfl (by decide +kernel) ⟨Nat.le_of_ble_eq_true rfl, Nat.le_of_ble_eq_true rfl⟩) q_B_blind (va_recv hK hP (ci := 3) (q0 := 0) rfl rfl) (q_B_of hP hK hN) rfl hl.1 rfl (Nat.le_of_ble_eq_true rfl) dL_law_134 hc hs ?_
                        refine q_reI (show (couR (lawV L xs 46) 0 : Int32) = nI (s_n (v_now (lawV L xs 46))) from w_c0) ?_
                        refine lv_istore_n (lv' := [(3, .int (nI (s_n (v_now (lawV L xs 46))))), (2, .int 1), (1, .ref (b 0)), (0, .ref bs)]) hx hb dL_law_137 rfl hl (by decide) rfl (fun ls hl => ?_)
                        refine lv_aload_n hx hb dL_law_138 rfl (lv_at hl 2 rfl) ?_
                        refine lv_iconst (v := 0) hx hb dL_law_139 (by decide) ?_
                        refine lv_iconst (v := 0) hx hb dL_law_140 (by decide) ?_
                        refine q_V (As := [.int 0, .int 0]) (rest := []) ⟨hx, hb, hml, hown, hts⟩ (c_X4_ofTeam l g a b (lawV L xs 46) 0 0 (by first | omega | assumption)) (cwV 2 hts gL_law_X4_ofTeam rfl rfl rfl (by decide +kernel) ⟨Nat.le_of_ble_eq_true rfl, Nat.le_of_ble_eq_true rfl⟩) q_B_blind (va_recv hK hP (ci := 3) (q0 := 0) rfl rfl) (q_B_of hP hK hN) rfl hl.1 rfl (Nat.le_of_ble_eq_true rfl) dL_law_141 hc hs ?_
                        refine lv_istore (lv' := [(4, .int (oftR (lawV L xs 46) 0 0)), (3, .int (nI (s_n (v_now (lawV L xs 46))))), (2, .int 1), (1, .ref (b 0)), (0, .ref bs)]) hx hb dL_law_144 hl (by decide) rfl (fun ls hl => ?_)
                        refine lv_iload_n hx hb dL_law_146 rfl (lv_at hl 2 rfl) ?_
                        refine lv_if_eq (tgt := 216) hx hb dL_law_147 (by decide) (fun c_147 => ?_) (fun c_147 => ?_)
                        · skip
                          exact absurd c_147 (by decide)
                        · skip
                          refine lv_aload_n hx hb dL_law_150 rfl (lv_at hl 3 rfl) ?_
                          refine q_S (As := [.ref (b 0)]) (rest := []) ⟨hx, hb, hml, hown, hts⟩ (c_L_areRanks l g a b (lawV L xs 46) (2 * 46) (iv_law L xs 46) (by omega)  ) (va_cwS 1 hts gL_law_L_areRanks rfl rfl rfl (by decide +kernel) ⟨Nat.le_of_ble_eq_true rfl, Nat.le_of_ble_eq_true rfl⟩) q_B_blind (q_B_of hP hK hN) rfl hl.1 rfl (Nat.le_of_ble_eq_true rfl) dL_law_151 hc hs ?_
                          refine lv_if_eq (tgt := 216) hx hb dL_law_154 (by decide) (fun c_154 => ?_) (fun c_154 => ?_)
                          · skip
                            have c_154 : true = false := bI_eq c_154
                            exact absurd c_154 (by decide)
                          · skip
                            have c_154 : true = true := bI_ne c_154
                            refine lv_aload_n hx hb dL_law_157 rfl (lv_at hl 3 rfl) ?_
                            refine q_S (As := [.ref (b 0)]) (rest := []) ⟨hx, hb, hml, hown, hts⟩ (c_L_areSheets l g a b (lawV L xs 46) (2 * 46) (iv_law L xs 46) (by omega)  ) (va_cwS 1 hts gL_law_L_areSheets rfl rfl rfl (by decide +kernel) ⟨Nat.le_of_ble_eq_true rfl, Nat.le_of_ble_eq_true rfl⟩) q_B_blind (q_B_of hP hK hN) rfl hl.1 rfl (Nat.le_of_ble_eq_true rfl) dL_law_158 hc hs ?_
                            refine lv_if_eq (tgt := 216) hx hb dL_law_161 (by decide) (fun c_161 => ?_) (fun c_161 => ?_)
                            · skip
                              have c_161 : true = false := bI_eq c_161
                              exact absurd (c_154.symm.trans c_161) (by decide)
                            · skip
                              refine lv_aload_n hx hb dL_law_164 rfl (lv_at hl 3 rfl) ?_
                              refine lv_iconst (v := 1) hx hb dL_law_165 (by decide) ?_
                              refine q_VM (As := [.int 1]) (rest := []) (st2 := [.int (savR (lawV L xs 46) 1)]) (c2 := 106) (s2 := 2908) ⟨hx, hb, hml, hown, hts⟩ (c_X4_save l g a b (lawV L xs 46) hI 1 ) (cwV 1 hts gL_law_X4_save rfl rfl rfl (by decide +kernel) ⟨Nat.le_of_ble_eq_true rfl, Nat.le_of_ble_eq_true rfl⟩) q_B_blind (va_recv hK hP (ci := 3) (q0 := 0) rfl rfl) (q_B_of hP hK hN) rfl hl.1 rfl (Nat.le_of_ble_eq_true rfl) dL_law_166 hc hs hS hAa rfl rfl rfl (fun H locs hP _ hS _ => ?_)
                              have hP : va_P g.1 vwCl (q_pqW g a b (savV (lawV L xs 46) 1)) H := hP
                              refine lv_iload_n hx hb dL_law_169 rfl (lv_at hl 1 rfl) ?_
                              refine lv_icmp_ne (tgt := 216) hx hb dL_law_170 (by decide) (fun c_170 => ?_) (fun c_170 => ?_)
                              · skip
                                refine (c_170 ?_).elim; exact (e_sav (lawV L xs 46)).1
                              · skip
                                have eV : savV (lawV L xs 46) 1 = e_a (lawV L xs 46) := (e_sav (lawV L xs 46)).2
                                rw [eV] at hP
                                have hva := e_iva hv
                                obtain ⟨oa, xa, pa1, pa2, pa3⟩ := id hva
                                have na := ok_n oa
                                have hP : va_P g.1 vwCl (q_pqW g a b (e_a (lawV L xs 46))) H := hP
                                refine lv_aload_n hx hb dL_law_173 rfl (lv_at hl 3 rfl) ?_
                                refine lv_iconst (v := 3) hx hb dL_law_174 (by decide) ?_
                                refine lv_bipush (v := 9) hx hb dL_law_175 (by decide) ?_
                                refine q_VM (As := [.int 3, .int 9]) (rest := []) (st2 := [.int (setR (e_a (lawV L xs 46)) 3 9)]) (c2 := 106) (s2 := 2908) ⟨hx, hb, hml, hown, hts⟩ (c_X4_set l g a b (e_a (lawV L xs 46)) hI 3 9 (by first | omega | assumption) (by first | omega | assumption)) (cwV 2 hts gL_law_X4_set rfl rfl rfl (by decide +kernel) ⟨Nat.le_of_ble_eq_true rfl, Nat.le_of_ble_eq_true rfl⟩) (fun a1 U f mk h => ⟨q_B_blind a1 U f mk h.1, q_ST_blind a1 U f mk h.2⟩) (va_recv hK hP (ci := 3) (q0 := 0) rfl rfl) (fun U hU hW => ⟨q_B_of hP hK hN U hU hW, q_ST_at hT hS hAa U hU hW⟩) rfl hl.1 rfl (Nat.le_of_ble_eq_true rfl) dL_law_177 hc hs hS hAa rfl rfl rfl (fun H locs hP _ hS _ => ?_)
                                have hP : va_P g.1 vwCl (q_pqW g a b (setV (e_a (lawV L xs 46)) 3 9)) H := hP
                                refine lv_if_lt (tgt := 216) hx hb dL_law_180 (by decide) (fun c_180 => ?_) (fun c_180 => ?_)
                                · skip
                                  exact absurd c_180 (e_set3 hva).1
                                · skip
                                  have eV : setV (e_a (lawV L xs 46)) 3 9 = e_b (lawV L xs 46) := (e_set3 hva).2
                                  rw [eV] at hP
                                  have hvb := e_ivb hv
                                  obtain ⟨ob, xb, pb1, pb2, pb3⟩ := id hvb
                                  have nb := ok_n ob
                                  have hP : va_P g.1 vwCl (q_pqW g a b (e_b (lawV L xs 46))) H := hP
                                  refine lv_aload_n hx hb dL_law_183 rfl (lv_at hl 3 rfl) ?_
                                  refine lv_iconst (v := 2) hx hb dL_law_184 (by decide) ?_
                                  refine lv_iconst (v := 2) hx hb dL_law_185 (by decide) ?_
                                  refine q_VM (As := [.int 2, .int 2]) (rest := []) (st2 := [.int (setR (e_b (lawV L xs 46)) 2 2)]) (c2 := 106) (s2 := 2908) ⟨hx, hb, hml, hown, hts⟩ (c_X4_set l g a b (e_b (lawV L xs 46)) hI 2 2 (by first | omega | assumption) (by first | omega | assumption)) (cwV 2 hts gL_law_X4_set rfl rfl rfl (by decide +kernel) ⟨Nat.le_of_ble_eq_true rfl, Nat.le_of_ble_eq_true rfl⟩) (fun a1 U f mk h => ⟨q_B_blind a1 U f mk h.1, q_ST_blind a1 U f mk h.2⟩) (va_recv hK hP (ci := 3) (q0 := 0) rfl rfl) (fun U hU hW => ⟨q_B_of hP hK hN U hU hW, q_ST_at hT hS hAa U hU hW⟩) rfl hl.1 rfl (Nat.le_of_ble_eq_true rfl) dL_law_186 hc hs hS hAa rfl rfl rfl (fun H locs hP _ hS _ => ?_)
                                  have hP : va_P g.1 vwCl (q_pqW g a b (setV (e_b (lawV L xs 46)) 2 2)) H := hP
                                  refine lv_if_lt (tgt := 216) hx hb dL_law_189 (by decide) (fun c_189 => ?_) (fun c_189 => ?_)
                                  · skip
                                    exact absurd c_189 (e_set2 hvb).1
                                  · skip
                                    have eV : setV (e_b (lawV L xs 46)) 2 2 = e_c (lawV L xs 46) := (e_set2 hvb).2
                                    rw [eV] at hP
                                    have hvc := e_ivc hv
                                    obtain ⟨oc, xc, pc1, pc2, pc3⟩ := id hvc
                                    have nc := ok_n oc
                                    have hP : va_P g.1 vwCl (q_pqW g a b (e_c (lawV L xs 46))) H := hP
                                    refine lv_aload_n hx hb dL_law_192 rfl (lv_at hl 3 rfl) ?_
                                    refine lv_iconst (v := 1) hx hb dL_law_193 (by decide) ?_
                                    refine q_VM (As := [.int 1]) (rest := []) (st2 := [.int (resR (e_c (lawV L xs 46)) 1)]) (c2 := 106) (s2 := 2908) ⟨hx, hb, hml, hown, hts⟩ (c_X4_restore l g a b (e_c (lawV L xs 46)) hI 1 (by first | omega | assumption) (by first | omega | assumption)) (cwV 1 hts gL_law_X4_restore rfl rfl rfl (by decide +kernel) ⟨Nat.le_of_ble_eq_true rfl, Nat.le_of_ble_eq_true rfl⟩) q_B_blind (va_recv hK hP (ci := 3) (q0 := 0) rfl rfl) (q_B_of hP hK hN) rfl hl.1 rfl (Nat.le_of_ble_eq_true rfl) dL_law_194 hc hs hS hAa rfl rfl rfl (fun H locs hP _ hS _ => ?_)
                                    have hP : va_P g.1 vwCl (q_pqW g a b (resV (e_c (lawV L xs 46)) 1)) H := hP
                                    refine lv_iload_n hx hb dL_law_197 rfl (lv_at hl 1 rfl) ?_
                                    refine lv_icmp_ne (tgt := 216) hx hb dL_law_198 (by decide) (fun c_198 => ?_) (fun c_198 => ?_)
                                    · skip
                                      refine (c_198 ?_).elim; exact (e_res hv).1
                                    · skip
                                      have eV : resV (e_c (lawV L xs 46)) 1 = e_d (lawV L xs 46) := (e_res hv).2
                                      rw [eV] at hP
                                      have hvd := e_ivd hv
                                      obtain ⟨od, xd, pd1, pd2, pd3⟩ := id hvd
                                      have nd := ok_n od
                                      have hP : va_P g.1 vwCl (q_pqW g a b (e_d (lawV L xs 46))) H := hP
                                      refine lv_aload_n hx hb dL_law_201 rfl (lv_at hl 3 rfl) ?_
                                      refine lv_iconst (v := 0) hx hb dL_law_202 (by decide) ?_
                                      refine lv_iconst (v := 0) hx hb dL_law_203 (by decide) ?_
                                      refine q_V (As := [.int 0, .int 0]) (rest := []) ⟨hx, hb, hml, hown, hts⟩ (c_X4_ofTeam l g a b (e_d (lawV L xs 46)) 0 0 (by first | omega | assumption)) (cwV 2 hts gL_law_X4_ofTeam rfl rfl rfl (by decide +kernel) ⟨Nat.le_of_ble_eq_true rfl, Nat.le_of_ble_eq_true rfl⟩) q_B_blind (va_recv hK hP (ci := 3) (q0 := 0) rfl rfl) (q_B_of hP hK hN) rfl hl.1 rfl (Nat.le_of_ble_eq_true rfl) dL_law_204 hc hs ?_
                                      refine lv_iload hx hb dL_law_207 (lv_at hl 0 rfl) ?_
                                      refine lv_icmp_ne (tgt := 216) hx hb dL_law_209 (by decide) (fun c_209 => ?_) (fun c_209 => ?_)
                                      · skip
                                        refine (c_209 ?_).elim; exact rfl
                                      · skip
                                        refine lv_iconst (v := 1) hx hb dL_law_212 (by decide) ?_
                                        refine lv_goto (tgt := 217) hx hb dL_law_213 (by decide) ?_
                                        refine lv_istore_n (lv' := [(2, .int 1), (4, .int (oftR (lawV L xs 46) 0 0)), (3, .int (nI (s_n (v_now (lawV L xs 46))))), (1, .ref (b 0)), (0, .ref bs)]) hx hb dL_law_217 rfl hl (by decide) rfl (fun ls hl => ?_)
                                        refine lv_iload_n hx hb dL_law_218 rfl (lv_at hl 0 rfl) ?_
                                        refine lv_if_eq (tgt := 244) hx hb dL_law_219 (by decide) (fun c_219 => ?_) (fun c_219 => ?_)
                                        · skip
                                          exact absurd c_219 (by decide)
                                        · skip
                                          refine lv_aload_n hx hb dL_law_222 rfl (lv_at hl 3 rfl) ?_
                                          refine q_VM (As := []) (rest := []) (st2 := [.int (undR (e_d (lawV L xs 46)))]) (c2 := 106) (s2 := 2908) ⟨hx, hb, hml, hown, hts⟩ (c_X4_undo l g a b (e_d (lawV L xs 46)) hI  (by first | omega | assumption) (by first | omega | assumption)) (cwV 0 hts gL_law_X4_undo rfl rfl rfl (by decide +kernel) ⟨Nat.le_of_ble_eq_true rfl, Nat.le_of_ble_eq_true rfl⟩) q_B_blind (va_recv hK hP (ci := 3) (q0 := 0) rfl rfl) (q_B_of hP hK hN) rfl hl.1 rfl (Nat.le_of_ble_eq_true rfl) dL_law_223 hc hs hS hAa rfl rfl rfl (fun H locs hP _ hS _ => ?_)
                                          have hP : va_P g.1 vwCl (q_pqW g a b (undV (e_d (lawV L xs 46)))) H := hP
                                          refine lv_if_lt (tgt := 244) hx hb dL_law_226 (by decide) (fun c_226 => ?_) (fun c_226 => ?_)
                                          · skip
                                            exact absurd c_226 (e_und hv).1
                                          · skip
                                            have nu := e_unn hv
                                            refine lv_aload_n hx hb dL_law_229 rfl (lv_at hl 3 rfl) ?_
                                            refine lv_bipush (v := 12) hx hb dL_law_230 (by decide) ?_
                                            refine q_V (As := [.int 12]) (rest := []) ⟨hx, hb, hml, hown, hts⟩ (c_X4_count l g a b (undV (e_d (lawV L xs 46))) 12 (by first | omega | assumption)) (cwV 1 hts gL_law_X4_count rfl rfl rfl (by decide +kernel) ⟨Nat.le_of_ble_eq_true rfl, Nat.le_of_ble_eq_true rfl⟩) q_B_blind (va_recv hK hP (ci := 3) (q0 := 0) rfl rfl) (q_B_of hP hK hN) rfl hl.1 rfl (Nat.le_of_ble_eq_true rfl) dL_law_232 hc hs ?_
                                            refine lv_bipush (v := 9) hx hb dL_law_235 (by decide) ?_
                                            refine lv_icmp_ne (tgt := 244) hx hb dL_law_237 (by decide) (fun c_237 => ?_) (fun c_237 => ?_)
                                            · skip
                                              refine (c_237 ?_).elim; exact (e_und hv).2
                                            · skip
                                              refine lv_iconst (v := 1) hx hb dL_law_240 (by decide) ?_
                                              refine lv_goto (tgt := 245) hx hb dL_law_241 (by decide) ?_
                                              refine W.widen (k := 600000) (n := 7302250) (Nat.le_of_ble_eq_true rfl) (Nat.le_of_ble_eq_true rfl) ?_
                                              refine va_forget (fun q hq => hS.2.2 q hq) ?_
                                              exact lw_ret hx hb hret hlk dL_law_245
                      · skip
                        have lt_i84 : i84 < 46 := q_ge_F (by omega) hi_i84 c_87
                        refine lv_iload_n hx hb dL_law_90 rfl (lv_at hl 1 rfl) ?_
                        refine lv_if_eq (tgt := 132) hx hb dL_law_91 (by decide) (fun c_91 => ?_) (fun c_91 => ?_)
                        · skip
                          exact absurd c_91 (by decide)
                        · skip
                          refine lv_aload_n hx hb dL_law_94 rfl (lv_at hl 2 rfl) ?_
                          refine lv_aload_n hx hb dL_law_95 rfl (lv_at hl 3 rfl) ?_
                          refine lv_iload_n hx hb dL_law_96 rfl (lv_at hl 0 rfl) ?_
                          refine q_S (As := [.ref bs, .int (nI i84)]) (rest := [.ref (b 0)]) ⟨hx, hb, hml, hown, hts⟩ (c_L_cell l bs L xs i84 (by first | omega | assumption) (by first | omega | assumption)) (va_cwS 2 hts gL_law_L_cell rfl rfl rfl (by decide +kernel) ⟨Nat.le_of_ble_eq_true rfl, Nat.le_of_ble_eq_true rfl⟩) q_XB_blind (q_XB_of hX hbl hbA hS) rfl hl.1 rfl (Nat.le_of_ble_eq_true rfl) dL_law_97 hc hs ?_
                          refine q_SM (As := [.ref (b 0), .int (nI (celN L xs i84))]) (rest := []) (st2 := [.int (bI true)]) (c2 := 106) (s2 := 2908) ⟨hx, hb, hml, hown, hts⟩ (c_L_acts l g a b (lawV L xs i84) hI (2 * i84) (iv_law L xs i84) (by omega) (celN L xs i84) (cel_lt L xs _)) (va_cwS 2 hts gL_law_L_acts rfl rfl rfl (by decide +kernel) ⟨Nat.le_of_ble_eq_true rfl, Nat.le_of_ble_eq_true rfl⟩) (fun a1 U f mk h => ⟨q_B_blind a1 U f mk h.1, q_ST_blind a1 U f mk h.2⟩) (fun U hU hW => ⟨q_B_of hP hK hN U hU hW, q_ST_at hT hS hAa U hU hW⟩) rfl hl.1 rfl (Nat.le_of_ble_eq_true rfl) dL_law_100 hc hs hS hAa rfl rfl rfl (fun H locs hP _ hS _ => ?_)
                          have hP : va_P g.1 vwCl (q_pqW g a b (actV (lawV L xs i84) (celN L xs i84))) H := hP
                          refine lv_if_eq (tgt := 124) hx hb dL_law_103 (by decide) (fun c_103 => ?_) (fun c_103 => ?_)
                          · skip
                            have c_103 : true = false := bI_eq c_103
                            exact absurd c_103 (by decide)
                          · skip
                            have c_103 : true = true := bI_ne c_103
                            refine lv_iload_n hx hb dL_law_106 rfl (lv_at hl 0 rfl) ?_
                            refine lv_bipush (v := 15) hx hb dL_law_107 (by decide) ?_
                            refine lv_irem hx hb dL_law_109 (by decide) ?_
                            refine q_reI (show ((nI i84) - (nI i84) / 15 * 15 : Int32) = nI (i84 % 15) from pk_rem (d := 15) (by omega) (by decide) (by decide)) ?_
                            refine lv_if_gt (tgt := 120) hx hb dL_law_110 (by decide) (fun c_110 => ?_) (fun c_110 => ?_)
                            · skip
                              refine lv_iconst (v := 1) hx hb dL_law_120 (by decide) ?_
                              refine lv_goto (tgt := 125) hx hb dL_law_121 (by decide) ?_
                              refine lv_istore_n (lv' := [(2, .int 1), (3, .int (nI i84)), (1, .ref (b 0)), (0, .ref bs)]) hx hb dL_law_125 rfl hl (by decide) rfl (fun ls hl => ?_)
                              refine lv_iinc (v := nI (i84 + 1)) (lv' := [(3, .int (nI (i84 + 1))), (2, .int 1), (1, .ref (b 0)), (0, .ref bs)]) hx hb dL_law_126 hl (k := 1) rfl (nI_1 _) (by decide) rfl (fun ls hl => ?_)
                              refine lv_goto (tgt := 84) hx hb dL_law_129 (by decide) ?_
                              exact ih_i84 (i84 + 1) _ _ (hP) hS lt_i84 (by omega) ls (lv_sub hl [0, 1, 2, 3] rfl)
                            · skip
                              refine lv_aload_n hx hb dL_law_113 rfl (lv_at hl 2 rfl) ?_
                              refine q_S (As := [.ref (b 0)]) (rest := []) ⟨hx, hb, hml, hown, hts⟩ (c_L_areRanks l g a b (actV (lawV L xs i84) (celN L xs i84)) (2 * (i84 + 1)) (iv_law L xs (i84 + 1)) (by omega)  ) (va_cwS 1 hts gL_law_L_areRanks rfl rfl rfl (by decide +kernel) ⟨Nat.le_of_ble_eq_true rfl, Nat.le_of_ble_eq_true rfl⟩) q_B_blind (q_B_of hP hK hN) rfl hl.1 rfl (Nat.le_of_ble_eq_true rfl) dL_law_114 hc hs ?_
                              refine lv_if_eq (tgt := 124) hx hb dL_law_117 (by decide) (fun c_117 => ?_) (fun c_117 => ?_)
                              · skip
                                have c_117 : true = false := bI_eq c_117
                                exact absurd (c_103.symm.trans c_117) (by decide)
                              · skip
                                refine lv_iconst (v := 1) hx hb dL_law_120 (by decide) ?_
                                refine lv_goto (tgt := 125) hx hb dL_law_121 (by decide) ?_
                                refine lv_istore_n (lv' := [(2, .int 1), (3, .int (nI i84)), (1, .ref (b 0)), (0, .ref bs)]) hx hb dL_law_125 rfl hl (by decide) rfl (fun ls hl => ?_)
                                refine lv_iinc (v := nI (i84 + 1)) (lv' := [(3, .int (nI (i84 + 1))), (2, .int 1), (1, .ref (b 0)), (0, .ref bs)]) hx hb dL_law_126 hl (k := 1) rfl (nI_1 _) (by decide) rfl (fun ls hl => ?_)
                                refine lv_goto (tgt := 84) hx hb dL_law_129 (by decide) ?_
                                exact ih_i84 (i84 + 1) _ _ (hP) hS lt_i84 (by omega) ls (lv_sub hl [0, 1, 2, 3] rfl)
                  exact L_84 (46 + 1) 0 _ _ (hP) hS (Nat.zero_le _) (by omega) ls (lv_sub hl [0, 1, 2, 3] rfl)
