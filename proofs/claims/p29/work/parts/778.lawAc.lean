/-! an act of the law -/

theorem sh_4 {z : Nat} (h : z < 2 ^ 31) : nI z >>> ((4 : Int32) &&& 31) = nI (z / 16) := pk_shrN h _ 4 (by decide)

theorem sh_5 {z : Nat} (h : z < 2 ^ 31) : nI z >>> ((5 : Int32) &&& 31) = nI (z / 32) := pk_shrN h _ 5 (by decide)

theorem sh_7 {z : Nat} (h : z < 2 ^ 31) : nI z >>> ((7 : Int32) &&& 31) = nI (z / 128) := pk_shrN h _ 7 (by decide)

theorem sh_8 {z : Nat} (h : z < 2 ^ 31) : nI z >>> ((8 : Int32) &&& 31) = nI (z / 256) := pk_shrN h _ 8 (by decide)

theorem sh_12 {z : Nat} (h : z < 2 ^ 31) : nI z >>> ((12 : Int32) &&& 31) = nI (z / 4096) := pk_shrN h _ 12 (by decide)

theorem sh_15 {z : Nat} (h : z < 2 ^ 31) : nI z >>> ((15 : Int32) &&& 31) = nI (z / 32768) := pk_shrN h _ 15 (by decide)

theorem sh_16 {z : Nat} (h : z < 2 ^ 31) : nI z >>> ((16 : Int32) &&& 31) = nI (z / 65536) := pk_shrN h _ 16 (by decide)

theorem sh_18 {z : Nat} (h : z < 2 ^ 31) : nI z >>> ((18 : Int32) &&& 31) = nI (z / 262144) := pk_shrN h _ 18 (by decide)

theorem aw_0 {z : Nat} (h : nI (z / 16 % 4) = 0) : 1 + nI (z / 256 % 100) = nI (actW z) := by
  have e := (nI_eq (b := 0) (by omega) (by decide)).mp h
  unfold actW
  rw [if_pos e]
  exact nI_add 1 _
theorem aw_n {z k : Nat} (hk : k < 4) (h : ¬ nI (z / 16 % 4) = nI k) : ¬ z / 16 % 4 = k := fun q => h (by rw [q])
theorem aw_1 {z : Nat} (h : nI (z / 16 % 4) = 1) : nI (z / 256 % 51) = nI (actW z) := by
  have e := (nI_eq (b := 1) (by omega) (by decide)).mp h
  unfold actW
  rw [if_neg (by omega), if_pos e]
theorem aw_2 {z : Nat} (h : nI (z / 16 % 4) = 2) : nI (z / 256 % 3) = nI (actW z) := by
  have e := (nI_eq (b := 2) (by omega) (by decide)).mp h
  unfold actW
  rw [if_neg (by omega), if_neg (by omega), if_pos e]
theorem aw_3 {z : Nat} (h0 : ¬ nI (z / 16 % 4) = 0) (h1 : ¬ nI (z / 16 % 4) = 1) (h2 : ¬ nI (z / 16 % 4) = 2) : nI (z / 256 % 10) = nI (actW z) := by
  have e0 := aw_n (k := 0) (by decide) h0
  have e1 := aw_n (k := 1) (by decide) h1
  have e2 := aw_n (k := 2) (by decide) h2
  unfold actW
  rw [if_neg e0, if_neg e1, if_neg e2]

set_option maxHeartbeats 40000000 in
set_option maxRecDepth 100000 in
theorem c_L_acts (l : Launch) (g : q_G) (a : Nat → Nat → Nat) (b : Nat → Nat) (V : q_CV) (hI : q_inj a b) (K : Nat) (hv : q_iv K V) (hK5 : K ≤ 512) (z : Nat) (h1_ : z < 2 ^ 31) : Met l yL_acts wsL_acts { frames := 7, cells := 0, slots := 0, locals := 163 } (va_Pc [.ref (b 0), .int (nI z)] (fun U => q_B g (q_pqW g a b V) U ∧ q_ST (q_adr a b) U)) (q_QM g (q_adr a b) (q_pqW g a b (actV V z)) (some (.int (bI true)))) 0 0 (q_adr a b) := by
  refine q_mm (cc := cL_acts) (maxL := 30) (ret := (some .boolean)) (by decide) rfl (Nat.le_of_ble_eq_true rfl) ?_
  intro p e s m args below meth c ls hx hb hml hown hts hr hlk hnm hB hag hl
  obtain ⟨⟨hP, hK, hN⟩, hST⟩ := hB
  have hS : va_S (q_adr a b) s.heap s.heap [] := va_S.rf
  have hP : va_P g.1 vwCl (q_pqW g a b V) s.heap := hP
  have hD : va_D (q_adr a b) (q_pqW g a b V) := q_D hI (fun _ h => h)
  have hl : lv_has ls 30 [(0, .ref (b 0)), (1, .int (nI z))] := hl
  obtain ⟨ho, hpx, hpl, hh6, hn6⟩ := id hv
  have hn10 := ok_n ho
  have hn3 := hpx.1
  have hT : actT V z < s_n (v_now V) := Nat.mod_lt _ (by omega)
  have hO : actO V z < s_n (v_now V) := Nat.mod_lt _ (by omega)
  have hR : actR z < 8 := Nat.mod_lt _ (by decide)
  refine lv_aload_n hx hb dL_acts_0 rfl (lv_at hl 0 rfl) ?_
  refine lv_iconst (v := 0) hx hb dL_acts_1 (by decide) ?_
  refine q_V (As := [.int 0]) (rest := []) ⟨hx, hb, hml, hown, hts⟩ (c_X4_count l g a b V 0 (by first | omega | assumption)) (cwV 1 hts gL_acts_X4_count rfl rfl rfl (by decide +kernel) ⟨Nat.le_of_ble_eq_true rfl, Nat.le_of_ble_eq_true rfl⟩) q_B_blind (va_recv hK hP (ci := 3) (q0 := 0) rfl rfl) (q_B_of hP hK hN) rfl hl.1 rfl (Nat.le_of_ble_eq_true rfl) dL_acts_2 (Nat.zero_le _) (Nat.zero_le _) ?_
  refine q_reI (show (couR V 0 : Int32) = nI (s_n (v_now V)) from w_c0) ?_
  refine lv_istore_n (lv' := [(2, .int (nI (s_n (v_now V)))), (0, .ref (b 0)), (1, .int (nI z))]) hx hb dL_acts_5 rfl hl (by decide) rfl (fun ls hl => ?_)
  refine lv_iload_n hx hb dL_acts_6 rfl (lv_at hl 0 rfl) ?_
  refine lv_if_ne (tgt := 14) hx hb dL_acts_7 (by decide) (fun c_7 => ?_) (fun c_7 => ?_)
  · skip
    refine lv_iload_n hx hb dL_acts_14 rfl (lv_at hl 2 rfl) ?_
    refine lv_iconst (v := 4) hx hb dL_acts_15 (by decide) ?_
    refine lv_ishr hx hb dL_acts_16 ?_
    refine q_reI (show (((nI z) >>> (4 &&& 31)) : Int32) = nI (z / 16) from sh_4 (by omega)) ?_
    refine lv_iload_n hx hb dL_acts_17 rfl (lv_at hl 0 rfl) ?_
    refine lv_irem hx hb dL_acts_18 (c_7) ?_
    refine q_reI (show (((nI (z / 16)) - (nI (z / 16)) / (nI (s_n (v_now V))) * (nI (s_n (v_now V)))) : Int32) = nI (actT V z) from pk_rem (by omega) (by omega) (by omega)) ?_
    refine lv_istore_n (lv' := [(3, .int (nI (actT V z))), (2, .int (nI (s_n (v_now V)))), (0, .ref (b 0)), (1, .int (nI z))]) hx hb dL_acts_19 rfl hl (by decide) rfl (fun ls hl => ?_)
    refine lv_iload_n hx hb dL_acts_20 rfl (lv_at hl 1 rfl) ?_
    refine lv_if_ne (tgt := 28) hx hb dL_acts_21 (by decide) (fun c_21 => ?_) (fun c_21 => ?_)
    · skip
      refine lv_iload_n hx hb dL_acts_28 rfl (lv_at hl 3 rfl) ?_
      refine lv_bipush (v := 8) hx hb dL_acts_29 (by decide) ?_
      refine lv_ishr hx hb dL_acts_31 ?_
      refine q_reI (show (((nI z) >>> (8 &&& 31)) : Int32) = nI (z / 256) from sh_8 (by omega)) ?_
      refine lv_iload_n hx hb dL_acts_32 rfl (lv_at hl 1 rfl) ?_
      refine lv_irem hx hb dL_acts_33 (c_21) ?_
      refine q_reI (show (((nI (z / 256)) - (nI (z / 256)) / (nI (s_n (v_now V))) * (nI (s_n (v_now V)))) : Int32) = nI (actO V z) from pk_rem (by omega) (by omega) (by omega)) ?_
      refine lv_istore (lv' := [(4, .int (nI (actO V z))), (3, .int (nI (actT V z))), (2, .int (nI (s_n (v_now V)))), (0, .ref (b 0)), (1, .int (nI z))]) hx hb dL_acts_34 hl (by decide) rfl (fun ls hl => ?_)
      refine lv_iload_n hx hb dL_acts_36 rfl (lv_at hl 4 rfl) ?_
      refine lv_bipush (v := 12) hx hb dL_acts_37 (by decide) ?_
      refine lv_ishr hx hb dL_acts_39 ?_
      refine q_reI (show (((nI z) >>> (12 &&& 31)) : Int32) = nI (z / 4096) from sh_12 (by omega)) ?_
      refine lv_bipush (v := 8) hx hb dL_acts_40 (by decide) ?_
      refine lv_irem hx hb dL_acts_42 (by decide) ?_
      refine q_reI (show ((nI (z / 4096)) - (nI (z / 4096)) / 8 * 8 : Int32) = nI (z / 4096 % 8) from pk_rem (d := 8) (by omega) (by decide) (by decide)) ?_
      refine q_reI (show (nI (z / 4096 % 8) : Int32) = nI (actR z) from rfl) ?_
      refine lv_istore (lv' := [(5, .int (nI (actR z))), (4, .int (nI (actO V z))), (3, .int (nI (actT V z))), (2, .int (nI (s_n (v_now V)))), (0, .ref (b 0)), (1, .int (nI z))]) hx hb dL_acts_43 hl (by decide) rfl (fun ls hl => ?_)
      refine lv_aload_n hx hb dL_acts_45 rfl (lv_at hl 4 rfl) ?_
      refine lv_iload hx hb dL_acts_46 (lv_at hl 0 rfl) ?_
      refine lv_iconst (v := 0) hx hb dL_acts_48 (by decide) ?_
      refine q_V (As := [.int (nI (actR z)), .int 0]) (rest := []) ⟨hx, hb, hml, hown, hts⟩ (c_X4_ofRound l g a b V (nI (actR z)) 0 (by first | omega | assumption)) (cwV 2 hts gL_acts_X4_ofRound rfl rfl rfl (by decide +kernel) ⟨Nat.le_of_ble_eq_true rfl, Nat.le_of_ble_eq_true rfl⟩) q_B_blind (va_recv hK hP (ci := 3) (q0 := 0) rfl rfl) (q_B_of hP hK hN) rfl hl.1 rfl (Nat.le_of_ble_eq_true rfl) dL_acts_49 (Nat.zero_le _) (Nat.zero_le _) ?_
      refine q_reI (show (ofrR V (nI (actR z)) 0 : Int32) = bI (isOp (v_now V) (actR z)) from w_r0 hR) ?_
      refine lv_iconst (v := 1) hx hb dL_acts_52 (by decide) ?_
      have J_61 : W p l e { frames := 7, cells := 0, slots := 0, locals := 163 } s m args below meth c s.heap [] 0 0 (MQ below (q_QM g (q_adr a b) (q_pqW g a b (actV V z)) (some (.int (bI true)))) args s 0 0 (q_adr a b)) (F0 m 61 ls [.int (bI (isOp (v_now V) (actR z)))]) := by
        refine lv_istore (lv' := [(6, .int (bI (isOp (v_now V) (actR z)))), (5, .int (nI (actR z))), (4, .int (nI (actO V z))), (3, .int (nI (actT V z))), (2, .int (nI (s_n (v_now V)))), (0, .ref (b 0)), (1, .int (nI z))]) hx hb dL_acts_61 hl (by decide) rfl (fun ls hl => ?_)
        refine lv_aload_n hx hb dL_acts_63 rfl (lv_at hl 5 rfl) ?_
        refine lv_iload_n hx hb dL_acts_64 rfl (lv_at hl 3 rfl) ?_
        refine lv_iload hx hb dL_acts_65 (lv_at hl 1 rfl) ?_
        refine lv_iconst (v := 4) hx hb dL_acts_67 (by decide) ?_
        refine q_V (As := [.int (nI (actT V z)), .int (nI (actR z)), .int 4]) (rest := []) ⟨hx, hb, hml, hown, hts⟩ (c_X4_sheet l g a b V (nI (actT V z)) (nI (actR z)) 4 (by first | omega | assumption)) (cwV 3 hts gL_acts_X4_sheet rfl rfl rfl (by decide +kernel) ⟨Nat.le_of_ble_eq_true rfl, Nat.le_of_ble_eq_true rfl⟩) q_B_blind (va_recv hK hP (ci := 3) (q0 := 0) rfl rfl) (q_B_of hP hK hN) rfl hl.1 rfl (Nat.le_of_ble_eq_true rfl) dL_acts_68 (Nat.zero_le _) (Nat.zero_le _) ?_
        have J_79 : W p l e { frames := 7, cells := 0, slots := 0, locals := 163 } s m args below meth c s.heap [] 0 0 (MQ below (q_QM g (q_adr a b) (q_pqW g a b (actV V z)) (some (.int (bI true)))) args s 0 0 (q_adr a b)) (F0 m 79 ls [.int (bI (hasS (v_now V) (actT V z) (actR z)))]) := by
          refine lv_istore (lv' := [(7, .int (bI (hasS (v_now V) (actT V z) (actR z)))), (6, .int (bI (isOp (v_now V) (actR z)))), (5, .int (nI (actR z))), (4, .int (nI (actO V z))), (3, .int (nI (actT V z))), (2, .int (nI (s_n (v_now V)))), (0, .ref (b 0)), (1, .int (nI z))]) hx hb dL_acts_79 hl (by decide) rfl (fun ls hl => ?_)
          refine lv_aload_n hx hb dL_acts_81 rfl (lv_at hl 6 rfl) ?_
          refine lv_iload_n hx hb dL_acts_82 rfl (lv_at hl 4 rfl) ?_
          refine lv_iload hx hb dL_acts_83 (lv_at hl 2 rfl) ?_
          refine lv_iconst (v := 0) hx hb dL_acts_85 (by decide) ?_
          refine q_V (As := [.int (nI (actT V z)), .int (nI (actR z)), .int 0]) (rest := []) ⟨hx, hb, hml, hown, hts⟩ (c_X4_sheet l g a b V (nI (actT V z)) (nI (actR z)) 0 (by first | omega | assumption)) (cwV 3 hts gL_acts_X4_sheet rfl rfl rfl (by decide +kernel) ⟨Nat.le_of_ble_eq_true rfl, Nat.le_of_ble_eq_true rfl⟩) q_B_blind (va_recv hK hP (ci := 3) (q0 := 0) rfl rfl) (q_B_of hP hK hN) rfl hl.1 rfl (Nat.le_of_ble_eq_true rfl) dL_acts_86 (Nat.zero_le _) (Nat.zero_le _) ?_
          have J_97 : W p l e { frames := 7, cells := 0, slots := 0, locals := 163 } s m args below meth c s.heap [] 0 0 (MQ below (q_QM g (q_adr a b) (q_pqW g a b (actV V z)) (some (.int (bI true)))) args s 0 0 (q_adr a b)) (F0 m 97 ls [.int (bI (tldS (v_now V) (actT V z) (actR z)))]) := by
            refine lv_istore (lv' := [(8, .int (bI (tldS (v_now V) (actT V z) (actR z)))), (7, .int (bI (hasS (v_now V) (actT V z) (actR z)))), (6, .int (bI (isOp (v_now V) (actR z)))), (5, .int (nI (actR z))), (4, .int (nI (actO V z))), (3, .int (nI (actT V z))), (2, .int (nI (s_n (v_now V)))), (0, .ref (b 0)), (1, .int (nI z))]) hx hb dL_acts_97 hl (by decide) rfl (fun ls hl => ?_)
            refine lv_iload_n hx hb dL_acts_99 rfl (lv_at hl 8 rfl) ?_
            refine lv_bipush (v := 11) hx hb dL_acts_100 (by decide) ?_
            refine lv_irem hx hb dL_acts_102 (by decide) ?_
            refine q_reI (show ((nI z) - (nI z) / 11 * 11 : Int32) = nI (z % 11) from pk_rem (d := 11) (by omega) (by decide) (by decide)) ?_
            by_cases w_103_0 : (nI (z % 11)) = 0
            · skip
              have tx_103 : (nI (z % 11) : Int32).toInt = 0 := by rw [w_103_0]; decide
              refine lv_tableIn (tgt := 156) (off := 53) hx hb dL_acts_103 (by rw [tx_103]; decide) (by rw [tx_103]; decide) (by rw [tx_103]; rfl) (by decide) ?_
              have hc : z % 11 = 0 := (nI_eq (b := 0) (by omega) (by decide)).mp w_103_0
              refine lv_aload_n hx hb dL_acts_156 rfl (lv_at hl 7 rfl) ?_
              refine q_VM (As := []) (rest := []) (st2 := [.int (teaR V)]) ⟨hx, hb, hml, hown, hts⟩ (c_X4_team l g a b V hI  (by first | omega | assumption) (by first | omega | assumption) (by first | omega | assumption)) (cwV 0 hts gL_acts_X4_team rfl rfl rfl (by decide +kernel) ⟨Nat.le_of_ble_eq_true rfl, Nat.le_of_ble_eq_true rfl⟩) q_B_blind (va_recv hK hP (ci := 3) (q0 := 0) rfl rfl) (q_B_of hP hK hN) rfl hl.1 rfl (Nat.le_of_ble_eq_true rfl) dL_acts_157 (Nat.zero_le _) (Nat.zero_le _) hS (fun _ h => h) rfl rfl rfl (fun H locs hP _ hS _ => ?_)
              have hP : va_P g.1 vwCl (q_pqW g a b (teaV V)) H := hP
              have hD : va_D (q_adr a b) (q_pqW g a b (teaV V)) := q_D hI (fun _ h => h)
              have hnT : s_n (v_now (teaV V)) ≤ 10 := ok_n (iv_tea hv).1
              refine lv_istore (lv' := [(9, .int (teaR V)), (8, .int (bI (tldS (v_now V) (actT V z) (actR z)))), (7, .int (bI (hasS (v_now V) (actT V z) (actR z)))), (6, .int (bI (isOp (v_now V) (actR z)))), (5, .int (nI (actR z))), (4, .int (nI (actO V z))), (3, .int (nI (actT V z))), (2, .int (nI (s_n (v_now V)))), (0, .ref (b 0)), (1, .int (nI z))]) hx hb dL_acts_160 hl (by decide) rfl (fun ls hl => ?_)
              refine lv_iload_n hx hb dL_acts_162 rfl (lv_at hl 7 rfl) ?_
              refine lv_bipush (v := 10) hx hb dL_acts_163 (by decide) ?_
              refine lv_icmp_ne (tgt := 183) hx hb dL_acts_165 (by decide) (fun c_165 => ?_) (fun c_165 => ?_)
              · skip
                have d_165 : ¬ s_n (v_now V) = 10 := fun q => c_165 (by rw [q]; rfl)
                refine lv_aload_n hx hb dL_acts_183 rfl (lv_at hl 8 rfl) ?_
                refine lv_iconst (v := 4) hx hb dL_acts_184 (by decide) ?_
                refine q_V (As := [.int 4]) (rest := []) ⟨hx, hb, hml, hown, hts⟩ (c_X4_count l g a b (teaV V) 4 (by first | omega | assumption)) (cwV 1 hts gL_acts_X4_count rfl rfl rfl (by decide +kernel) ⟨Nat.le_of_ble_eq_true rfl, Nat.le_of_ble_eq_true rfl⟩) q_B_blind (va_recv hK hP (ci := 3) (q0 := 0) rfl rfl) (q_B_of hP hK hN) rfl hl.1 rfl (Nat.le_of_ble_eq_true rfl) dL_acts_185 (Nat.zero_le _) (Nat.zero_le _) ?_
                refine q_reI (show (couR (teaV V) 4 : Int32) = q_or (isOp (v_now V)) 8 from tea_c) ?_
                refine lv_sipush (v := 255) hx hb dL_acts_188 (by decide) ?_
                refine lv_icmp_eq (tgt := 209) hx hb dL_acts_191 (by decide) (fun c_191 => ?_) (fun c_191 => ?_)
                · skip
                  refine lv_iload hx hb dL_acts_209 (lv_at hl 0 rfl) ?_
                  refine lv_iload_n hx hb dL_acts_211 rfl (lv_at hl 7 rfl) ?_
                  refine lv_icmp_ne (tgt := 236) hx hb dL_acts_212 (by decide) (fun c_212 => ?_) (fun c_212 => ?_)
                  · skip
                    refine (c_212 ?_).elim; exact (tea_0 hn10 d_165 c_191).1
                  · skip
                    refine lv_aload_n hx hb dL_acts_215 rfl (lv_at hl 8 rfl) ?_
                    refine lv_iload hx hb dL_acts_216 (lv_at hl 0 rfl) ?_
                    refine lv_bipush (v := 8) hx hb dL_acts_218 (by decide) ?_
                    refine q_V (As := [.int (teaR V), .int 8]) (rest := []) ⟨hx, hb, hml, hown, hts⟩ (c_X4_ofTeam l g a b (teaV V) (teaR V) 8 (by first | omega | assumption)) (cwV 2 hts gL_acts_X4_ofTeam rfl rfl rfl (by decide +kernel) ⟨Nat.le_of_ble_eq_true rfl, Nat.le_of_ble_eq_true rfl⟩) q_B_blind (va_recv hK hP (ci := 3) (q0 := 0) rfl rfl) (q_B_of hP hK hN) rfl hl.1 rfl (Nat.le_of_ble_eq_true rfl) dL_acts_220 (Nat.zero_le _) (Nat.zero_le _) ?_
                    refine q_reI (show (oftR (teaV V) (teaR V) 8 : Int32) = s_set (v_now V) 0 from (tea_0 hn10 d_165 c_191).2.1) ?_
                    refine lv_aload_n hx hb dL_acts_223 rfl (lv_at hl 8 rfl) ?_
                    refine lv_bipush (v := 9) hx hb dL_acts_224 (by decide) ?_
                    refine q_V (As := [.int 9]) (rest := [.int (s_set (v_now V) 0)]) ⟨hx, hb, hml, hown, hts⟩ (c_X4_count l g a b (teaV V) 9 (by first | omega | assumption)) (cwV 1 hts gL_acts_X4_count rfl rfl rfl (by decide +kernel) ⟨Nat.le_of_ble_eq_true rfl, Nat.le_of_ble_eq_true rfl⟩) q_B_blind (va_recv hK hP (ci := 3) (q0 := 0) rfl rfl) (q_B_of hP hK hN) rfl hl.1 rfl (Nat.le_of_ble_eq_true rfl) dL_acts_226 (Nat.zero_le _) (Nat.zero_le _) ?_
                    refine q_reI (show (couR (teaV V) 9 : Int32) = s_set (v_now V) 0 from (tea_0 hn10 d_165 c_191).2.2) ?_
                    refine lv_icmp_ne (tgt := 236) hx hb dL_acts_229 (by decide) (fun c_229 => ?_) (fun c_229 => ?_)
                    · skip
                      exact absurd rfl c_229
                    · skip
                      refine lv_iconst (v := 1) hx hb dL_acts_232 (by decide) ?_
                      refine lv_goto (tgt := 237) hx hb dL_acts_233 (by decide) ?_
                      exact q_mzret hx hb hr hlk dL_acts_237 hP hS (rfl) (congrArg (q_pqW g a b) ((act_0 hc).symm))
                · skip
                  refine lv_iload hx hb dL_acts_194 (lv_at hl 0 rfl) ?_
                  refine lv_bipush (v := (-5)) hx hb dL_acts_196 (by decide) ?_
                  refine lv_icmp_ne (tgt := 205) hx hb dL_acts_198 (by decide) (fun c_198 => ?_) (fun c_198 => ?_)
                  · skip
                    refine (c_198 ?_).elim; exact (tea_5 hn10 d_165 c_191)
                  · skip
                    refine lv_iconst (v := 1) hx hb dL_acts_201 (by decide) ?_
                    refine lv_goto (tgt := 237) hx hb dL_acts_202 (by decide) ?_
                    exact q_mzret hx hb hr hlk dL_acts_237 hP hS (rfl) (congrArg (q_pqW g a b) ((act_0 hc).symm))
              · skip
                refine lv_iload hx hb dL_acts_168 (lv_at hl 0 rfl) ?_
                refine lv_bipush (v := (-4)) hx hb dL_acts_170 (by decide) ?_
                refine lv_icmp_ne (tgt := 179) hx hb dL_acts_172 (by decide) (fun c_172 => ?_) (fun c_172 => ?_)
                · skip
                  refine (c_172 ?_).elim; exact (tea_4 ((nI_eq (b := 10) (by omega) (by decide)).mp c_165))
                · skip
                  refine lv_iconst (v := 1) hx hb dL_acts_175 (by decide) ?_
                  refine lv_goto (tgt := 237) hx hb dL_acts_176 (by decide) ?_
                  exact q_mzret hx hb hr hlk dL_acts_237 hP hS (rfl) (congrArg (q_pqW g a b) ((act_0 hc).symm))
            by_cases w_103_1 : (nI (z % 11)) = 1
            · skip
              have tx_103 : (nI (z % 11) : Int32).toInt = 1 := by rw [w_103_1]; decide
              refine lv_tableIn (tgt := 238) (off := 135) hx hb dL_acts_103 (by rw [tx_103]; decide) (by rw [tx_103]; decide) (by rw [tx_103]; rfl) (by decide) ?_
              have hc : z % 11 = 1 := (nI_eq (b := 1) (by omega) (by decide)).mp w_103_1
              refine lv_aload_n hx hb dL_acts_238 rfl (lv_at hl 7 rfl) ?_
              refine lv_iload_n hx hb dL_acts_239 rfl (lv_at hl 8 rfl) ?_
              refine lv_iconst (v := 5) hx hb dL_acts_240 (by decide) ?_
              refine lv_ishr hx hb dL_acts_241 ?_
              refine q_reI (show (((nI z) >>> (5 &&& 31)) : Int32) = nI (z / 32) from sh_5 (by omega)) ?_
              refine lv_iconst (v := 0) hx hb dL_acts_242 (by decide) ?_
              refine q_reI (show (0 : Int32) = bI false from rfl) ?_
              refine q_SM (As := [.ref (b 0), .int (nI (z / 32)), .int (bI false)]) (rest := []) (st2 := [.int (bI true)]) ⟨hx, hb, hml, hown, hts⟩ (c_L_tells l g a b V hI (z / 32) false (by first | omega | assumption) (by first | omega | assumption)) (va_cwS 3 hts gL_acts_L_tells rfl rfl rfl (by decide +kernel) ⟨Nat.le_of_ble_eq_true rfl, Nat.le_of_ble_eq_true rfl⟩) q_B_blind (q_B_of hP hK hN) rfl hl.1 rfl (Nat.le_of_ble_eq_true rfl) dL_acts_243 (Nat.zero_le _) (Nat.zero_le _) hS (fun _ h => h) rfl rfl rfl (fun H locs hP _ hS _ => ?_)
              have hP : va_P g.1 vwCl (q_pqW g a b (telV V (z / 32) false 10)) H := hP
              have hD : va_D (q_adr a b) (q_pqW g a b (telV V (z / 32) false 10)) := q_D hI (fun _ h => h)
              have hv1 := tel_iv hv (z / 32) false
              obtain ⟨ho1, hpx1, hpl1, hh1, hn1⟩ := id hv1
              have hn11 := ok_n ho1
              refine lv_istore (lv' := [(10, .int (bI true)), (8, .int (bI (tldS (v_now V) (actT V z) (actR z)))), (7, .int (bI (hasS (v_now V) (actT V z) (actR z)))), (6, .int (bI (isOp (v_now V) (actR z)))), (5, .int (nI (actR z))), (4, .int (nI (actO V z))), (3, .int (nI (actT V z))), (2, .int (nI (s_n (v_now V)))), (0, .ref (b 0)), (1, .int (nI z))]) hx hb dL_acts_246 hl (by decide) rfl (fun ls hl => ?_)
              refine lv_aload_n hx hb dL_acts_248 rfl (lv_at hl 8 rfl) ?_
              refine lv_iload_n hx hb dL_acts_249 rfl (lv_at hl 6 rfl) ?_
              refine lv_iload hx hb dL_acts_250 (lv_at hl 4 rfl) ?_
              refine q_VM (As := [.int (nI (actT V z)), .int (nI (actR z))]) (rest := []) (st2 := [.int (hanR (telV V (z / 32) false 10) (nI (actT V z)) (nI (actR z)))]) ⟨hx, hb, hml, hown, hts⟩ (c_X4_hand l g a b (telV V (z / 32) false 10) hI (nI (actT V z)) (nI (actR z)) (by first | omega | assumption) (by first | omega | assumption) (by first | omega | assumption) (by first | omega | assumption)) (cwV 2 hts gL_acts_X4_hand rfl rfl rfl (by decide +kernel) ⟨Nat.le_of_ble_eq_true rfl, Nat.le_of_ble_eq_true rfl⟩) q_B_blind (va_recv hK hP (ci := 3) (q0 := 0) rfl rfl) (q_B_of hP hK hN) rfl hl.1 rfl (Nat.le_of_ble_eq_true rfl) dL_acts_252 (Nat.zero_le _) (Nat.zero_le _) hS (fun _ h => h) rfl rfl rfl (fun H locs hP _ hS _ => ?_)
              have hP : va_P g.1 vwCl (q_pqW g a b (hanV (telV V (z / 32) false 10) (nI (actT V z)) (nI (actR z)))) H := hP
              have hD : va_D (q_adr a b) (q_pqW g a b (hanV (telV V (z / 32) false 10) (nI (actT V z)) (nI (actR z)))) := q_D hI (fun _ h => h)
              have hn2 : s_n (v_now (hanV (telV V (z / 32) false 10) (nI (actT V z)) (nI (actR z)))) ≤ 10 := ok_n (iv_han hv1 _ _).1
              refine lv_istore (lv' := [(11, .int (hanR (telV V (z / 32) false 10) (nI (actT V z)) (nI (actR z)))), (10, .int (bI true)), (8, .int (bI (tldS (v_now V) (actT V z) (actR z)))), (7, .int (bI (hasS (v_now V) (actT V z) (actR z)))), (6, .int (bI (isOp (v_now V) (actR z)))), (5, .int (nI (actR z))), (4, .int (nI (actO V z))), (3, .int (nI (actT V z))), (2, .int (nI (s_n (v_now V)))), (0, .ref (b 0)), (1, .int (nI z))]) hx hb dL_acts_255 hl (by decide) rfl (fun ls hl => ?_)
              refine lv_iload hx hb dL_acts_257 (lv_at hl 1 rfl) ?_
              refine lv_if_eq (tgt := 321) hx hb dL_acts_259 (by decide) (fun c_259 => ?_) (fun c_259 => ?_)
              · skip
                have c_259 : true = false := bI_eq c_259
                exact absurd c_259 (by decide)
              · skip
                have c_259 : true = true := bI_ne c_259
                refine lv_iload_n hx hb dL_acts_262 rfl (lv_at hl 8 rfl) ?_
                refine lv_if_ne (tgt := 275) hx hb dL_acts_263 (by decide) (fun c_263 => ?_) (fun c_263 => ?_)
                · skip
                  refine lv_iload hx hb dL_acts_275 (lv_at hl 4 rfl) ?_
                  refine lv_if_eq (tgt := 285) hx hb dL_acts_277 (by decide) (fun c_277 => ?_) (fun c_277 => ?_)
                  · skip
                    have c_277 : (isOp (v_now V) (actR z)) = false := bI_eq c_277
                    refine lv_iload hx hb dL_acts_285 (lv_at hl 0 rfl) ?_
                    refine lv_bipush (v := (-5)) hx hb dL_acts_287 (by decide) ?_
                    refine lv_icmp_ne (tgt := 321) hx hb dL_acts_289 (by decide) (fun c_289 => ?_) (fun c_289 => ?_)
                    · skip
                      refine (c_289 ?_).elim; exact (han_5 hn10 hT hR (by first | exact Or.inl c_277 | exact Or.inr c_282))
                    · skip
                      refine lv_goto (tgt := 317) hx hb dL_acts_292 (by decide) ?_
                      refine lv_iconst (v := 1) hx hb dL_acts_317 (by decide) ?_
                      refine lv_goto (tgt := 322) hx hb dL_acts_318 (by decide) ?_
                      exact q_mzret hx hb hr hlk dL_acts_322 hP hS (rfl) (congrArg (q_pqW g a b) ((act_1 (by omega) (by omega)).symm))
                  · skip
                    have c_277 : (isOp (v_now V) (actR z)) = true := bI_ne c_277
                    refine lv_iload hx hb dL_acts_280 (lv_at hl 3 rfl) ?_
                    refine lv_if_eq (tgt := 295) hx hb dL_acts_282 (by decide) (fun c_282 => ?_) (fun c_282 => ?_)
                    · skip
                      have c_282 : (hasS (v_now V) (actT V z) (actR z)) = false := bI_eq c_282
                      refine lv_iload hx hb dL_acts_295 (lv_at hl 0 rfl) ?_
                      refine lv_aload_n hx hb dL_acts_297 rfl (lv_at hl 9 rfl) ?_
                      refine lv_iload_n hx hb dL_acts_298 rfl (lv_at hl 7 rfl) ?_
                      refine lv_iload hx hb dL_acts_299 (lv_at hl 5 rfl) ?_
                      refine lv_iconst (v := 4) hx hb dL_acts_301 (by decide) ?_
                      refine q_V (As := [.int (nI (actT V z)), .int (nI (actR z)), .int 4]) (rest := [.int (hanR (telV V (z / 32) false 10) (nI (actT V z)) (nI (actR z)))]) ⟨hx, hb, hml, hown, hts⟩ (c_X4_sheet l g a b (hanV (telV V (z / 32) false 10) (nI (actT V z)) (nI (actR z))) (nI (actT V z)) (nI (actR z)) 4 (by first | omega | assumption)) (cwV 3 hts gL_acts_X4_sheet rfl rfl rfl (by decide +kernel) ⟨Nat.le_of_ble_eq_true rfl, Nat.le_of_ble_eq_true rfl⟩) q_B_blind (va_recv hK hP (ci := 3) (q0 := 0) rfl rfl) (q_B_of hP hK hN) rfl hl.1 rfl (Nat.le_of_ble_eq_true rfl) dL_acts_302 (Nat.zero_le _) (Nat.zero_le _) ?_
                      refine lv_icmp_ne (tgt := 321) hx hb dL_acts_305 (by decide) (fun c_305 => ?_) (fun c_305 => ?_)
                      · skip
                        refine (c_305 ?_).elim; exact (han_0 hn10 hT hR c_277 c_282).1
                      · skip
                        refine lv_aload_n hx hb dL_acts_308 rfl (lv_at hl 9 rfl) ?_
                        refine lv_bipush (v := 13) hx hb dL_acts_309 (by decide) ?_
                        refine q_V (As := [.int 13]) (rest := []) ⟨hx, hb, hml, hown, hts⟩ (c_X4_count l g a b (hanV (telV V (z / 32) false 10) (nI (actT V z)) (nI (actR z))) 13 (by first | omega | assumption)) (cwV 1 hts gL_acts_X4_count rfl rfl rfl (by decide +kernel) ⟨Nat.le_of_ble_eq_true rfl, Nat.le_of_ble_eq_true rfl⟩) q_B_blind (va_recv hK hP (ci := 3) (q0 := 0) rfl rfl) (q_B_of hP hK hN) rfl hl.1 rfl (Nat.le_of_ble_eq_true rfl) dL_acts_311 (Nat.zero_le _) (Nat.zero_le _) ?_
                        refine lv_if_ne (tgt := 321) hx hb dL_acts_314 (by decide) (fun c_314 => ?_) (fun c_314 => ?_)
                        · skip
                          refine (c_314 ?_).elim; exact (han_0 hn10 hT hR c_277 c_282).2
                        · skip
                          refine lv_iconst (v := 1) hx hb dL_acts_317 (by decide) ?_
                          refine lv_goto (tgt := 322) hx hb dL_acts_318 (by decide) ?_
                          exact q_mzret hx hb hr hlk dL_acts_322 hP hS (rfl) (congrArg (q_pqW g a b) ((act_1 (by omega) (by omega)).symm))
                    · skip
                      have c_282 : (hasS (v_now V) (actT V z) (actR z)) = true := bI_ne c_282
                      refine lv_iload hx hb dL_acts_285 (lv_at hl 0 rfl) ?_
                      refine lv_bipush (v := (-5)) hx hb dL_acts_287 (by decide) ?_
                      refine lv_icmp_ne (tgt := 321) hx hb dL_acts_289 (by decide) (fun c_289 => ?_) (fun c_289 => ?_)
                      · skip
                        refine (c_289 ?_).elim; exact (han_5 hn10 hT hR (by first | exact Or.inl c_277 | exact Or.inr c_282))
                      · skip
                        refine lv_goto (tgt := 317) hx hb dL_acts_292 (by decide) ?_
                        refine lv_iconst (v := 1) hx hb dL_acts_317 (by decide) ?_
                        refine lv_goto (tgt := 322) hx hb dL_acts_318 (by decide) ?_
                        exact q_mzret hx hb hr hlk dL_acts_322 hP hS (rfl) (congrArg (q_pqW g a b) ((act_1 (by omega) (by omega)).symm))
                · skip
                  exact absurd c_263 c_7
            by_cases w_103_2 : (nI (z % 11)) = 2
            · skip
              have tx_103 : (nI (z % 11) : Int32).toInt = 2 := by rw [w_103_2]; decide
              refine lv_tableIn (tgt := 238) (off := 135) hx hb dL_acts_103 (by rw [tx_103]; decide) (by rw [tx_103]; decide) (by rw [tx_103]; rfl) (by decide) ?_
              have hc : z % 11 = 2 := (nI_eq (b := 2) (by omega) (by decide)).mp w_103_2
              refine lv_aload_n hx hb dL_acts_238 rfl (lv_at hl 7 rfl) ?_
              refine lv_iload_n hx hb dL_acts_239 rfl (lv_at hl 8 rfl) ?_
              refine lv_iconst (v := 5) hx hb dL_acts_240 (by decide) ?_
              refine lv_ishr hx hb dL_acts_241 ?_
              refine q_reI (show (((nI z) >>> (5 &&& 31)) : Int32) = nI (z / 32) from sh_5 (by omega)) ?_
              refine lv_iconst (v := 0) hx hb dL_acts_242 (by decide) ?_
              refine q_reI (show (0 : Int32) = bI false from rfl) ?_
              refine q_SM (As := [.ref (b 0), .int (nI (z / 32)), .int (bI false)]) (rest := []) (st2 := [.int (bI true)]) ⟨hx, hb, hml, hown, hts⟩ (c_L_tells l g a b V hI (z / 32) false (by first | omega | assumption) (by first | omega | assumption)) (va_cwS 3 hts gL_acts_L_tells rfl rfl rfl (by decide +kernel) ⟨Nat.le_of_ble_eq_true rfl, Nat.le_of_ble_eq_true rfl⟩) q_B_blind (q_B_of hP hK hN) rfl hl.1 rfl (Nat.le_of_ble_eq_true rfl) dL_acts_243 (Nat.zero_le _) (Nat.zero_le _) hS (fun _ h => h) rfl rfl rfl (fun H locs hP _ hS _ => ?_)
              have hP : va_P g.1 vwCl (q_pqW g a b (telV V (z / 32) false 10)) H := hP
              have hD : va_D (q_adr a b) (q_pqW g a b (telV V (z / 32) false 10)) := q_D hI (fun _ h => h)
              have hv1 := tel_iv hv (z / 32) false
              obtain ⟨ho1, hpx1, hpl1, hh1, hn1⟩ := id hv1
              have hn11 := ok_n ho1
              refine lv_istore (lv' := [(10, .int (bI true)), (8, .int (bI (tldS (v_now V) (actT V z) (actR z)))), (7, .int (bI (hasS (v_now V) (actT V z) (actR z)))), (6, .int (bI (isOp (v_now V) (actR z)))), (5, .int (nI (actR z))), (4, .int (nI (actO V z))), (3, .int (nI (actT V z))), (2, .int (nI (s_n (v_now V)))), (0, .ref (b 0)), (1, .int (nI z))]) hx hb dL_acts_246 hl (by decide) rfl (fun ls hl => ?_)
              refine lv_aload_n hx hb dL_acts_248 rfl (lv_at hl 8 rfl) ?_
              refine lv_iload_n hx hb dL_acts_249 rfl (lv_at hl 6 rfl) ?_
              refine lv_iload hx hb dL_acts_250 (lv_at hl 4 rfl) ?_
              refine q_VM (As := [.int (nI (actT V z)), .int (nI (actR z))]) (rest := []) (st2 := [.int (hanR (telV V (z / 32) false 10) (nI (actT V z)) (nI (actR z)))]) ⟨hx, hb, hml, hown, hts⟩ (c_X4_hand l g a b (telV V (z / 32) false 10) hI (nI (actT V z)) (nI (actR z)) (by first | omega | assumption) (by first | omega | assumption) (by first | omega | assumption) (by first | omega | assumption)) (cwV 2 hts gL_acts_X4_hand rfl rfl rfl (by decide +kernel) ⟨Nat.le_of_ble_eq_true rfl, Nat.le_of_ble_eq_true rfl⟩) q_B_blind (va_recv hK hP (ci := 3) (q0 := 0) rfl rfl) (q_B_of hP hK hN) rfl hl.1 rfl (Nat.le_of_ble_eq_true rfl) dL_acts_252 (Nat.zero_le _) (Nat.zero_le _) hS (fun _ h => h) rfl rfl rfl (fun H locs hP _ hS _ => ?_)
              have hP : va_P g.1 vwCl (q_pqW g a b (hanV (telV V (z / 32) false 10) (nI (actT V z)) (nI (actR z)))) H := hP
              have hD : va_D (q_adr a b) (q_pqW g a b (hanV (telV V (z / 32) false 10) (nI (actT V z)) (nI (actR z)))) := q_D hI (fun _ h => h)
              have hn2 : s_n (v_now (hanV (telV V (z / 32) false 10) (nI (actT V z)) (nI (actR z)))) ≤ 10 := ok_n (iv_han hv1 _ _).1
              refine lv_istore (lv' := [(11, .int (hanR (telV V (z / 32) false 10) (nI (actT V z)) (nI (actR z)))), (10, .int (bI true)), (8, .int (bI (tldS (v_now V) (actT V z) (actR z)))), (7, .int (bI (hasS (v_now V) (actT V z) (actR z)))), (6, .int (bI (isOp (v_now V) (actR z)))), (5, .int (nI (actR z))), (4, .int (nI (actO V z))), (3, .int (nI (actT V z))), (2, .int (nI (s_n (v_now V)))), (0, .ref (b 0)), (1, .int (nI z))]) hx hb dL_acts_255 hl (by decide) rfl (fun ls hl => ?_)
              refine lv_iload hx hb dL_acts_257 (lv_at hl 1 rfl) ?_
              refine lv_if_eq (tgt := 321) hx hb dL_acts_259 (by decide) (fun c_259 => ?_) (fun c_259 => ?_)
              · skip
                have c_259 : true = false := bI_eq c_259
                exact absurd c_259 (by decide)
              · skip
                have c_259 : true = true := bI_ne c_259
                refine lv_iload_n hx hb dL_acts_262 rfl (lv_at hl 8 rfl) ?_
                refine lv_if_ne (tgt := 275) hx hb dL_acts_263 (by decide) (fun c_263 => ?_) (fun c_263 => ?_)
                · skip
                  refine lv_iload hx hb dL_acts_275 (lv_at hl 4 rfl) ?_
                  refine lv_if_eq (tgt := 285) hx hb dL_acts_277 (by decide) (fun c_277 => ?_) (fun c_277 => ?_)
                  · skip
                    have c_277 : (isOp (v_now V) (actR z)) = false := bI_eq c_277
                    refine lv_iload hx hb dL_acts_285 (lv_at hl 0 rfl) ?_
                    refine lv_bipush (v := (-5)) hx hb dL_acts_287 (by decide) ?_
                    refine lv_icmp_ne (tgt := 321) hx hb dL_acts_289 (by decide) (fun c_289 => ?_) (fun c_289 => ?_)
                    · skip
                      refine (c_289 ?_).elim; exact (han_5 hn10 hT hR (by first | exact Or.inl c_277 | exact Or.inr c_282))
                    · skip
                      refine lv_goto (tgt := 317) hx hb dL_acts_292 (by decide) ?_
                      refine lv_iconst (v := 1) hx hb dL_acts_317 (by decide) ?_
                      refine lv_goto (tgt := 322) hx hb dL_acts_318 (by decide) ?_
                      exact q_mzret hx hb hr hlk dL_acts_322 hP hS (rfl) (congrArg (q_pqW g a b) ((act_1 (by omega) (by omega)).symm))
                  · skip
                    have c_277 : (isOp (v_now V) (actR z)) = true := bI_ne c_277
                    refine lv_iload hx hb dL_acts_280 (lv_at hl 3 rfl) ?_
                    refine lv_if_eq (tgt := 295) hx hb dL_acts_282 (by decide) (fun c_282 => ?_) (fun c_282 => ?_)
                    · skip
                      have c_282 : (hasS (v_now V) (actT V z) (actR z)) = false := bI_eq c_282
                      refine lv_iload hx hb dL_acts_295 (lv_at hl 0 rfl) ?_
                      refine lv_aload_n hx hb dL_acts_297 rfl (lv_at hl 9 rfl) ?_
                      refine lv_iload_n hx hb dL_acts_298 rfl (lv_at hl 7 rfl) ?_
                      refine lv_iload hx hb dL_acts_299 (lv_at hl 5 rfl) ?_
                      refine lv_iconst (v := 4) hx hb dL_acts_301 (by decide) ?_
                      refine q_V (As := [.int (nI (actT V z)), .int (nI (actR z)), .int 4]) (rest := [.int (hanR (telV V (z / 32) false 10) (nI (actT V z)) (nI (actR z)))]) ⟨hx, hb, hml, hown, hts⟩ (c_X4_sheet l g a b (hanV (telV V (z / 32) false 10) (nI (actT V z)) (nI (actR z))) (nI (actT V z)) (nI (actR z)) 4 (by first | omega | assumption)) (cwV 3 hts gL_acts_X4_sheet rfl rfl rfl (by decide +kernel) ⟨Nat.le_of_ble_eq_true rfl, Nat.le_of_ble_eq_true rfl⟩) q_B_blind (va_recv hK hP (ci := 3) (q0 := 0) rfl rfl) (q_B_of hP hK hN) rfl hl.1 rfl (Nat.le_of_ble_eq_true rfl) dL_acts_302 (Nat.zero_le _) (Nat.zero_le _) ?_
                      refine lv_icmp_ne (tgt := 321) hx hb dL_acts_305 (by decide) (fun c_305 => ?_) (fun c_305 => ?_)
                      · skip
                        refine (c_305 ?_).elim; exact (han_0 hn10 hT hR c_277 c_282).1
                      · skip
                        refine lv_aload_n hx hb dL_acts_308 rfl (lv_at hl 9 rfl) ?_
                        refine lv_bipush (v := 13) hx hb dL_acts_309 (by decide) ?_
                        refine q_V (As := [.int 13]) (rest := []) ⟨hx, hb, hml, hown, hts⟩ (c_X4_count l g a b (hanV (telV V (z / 32) false 10) (nI (actT V z)) (nI (actR z))) 13 (by first | omega | assumption)) (cwV 1 hts gL_acts_X4_count rfl rfl rfl (by decide +kernel) ⟨Nat.le_of_ble_eq_true rfl, Nat.le_of_ble_eq_true rfl⟩) q_B_blind (va_recv hK hP (ci := 3) (q0 := 0) rfl rfl) (q_B_of hP hK hN) rfl hl.1 rfl (Nat.le_of_ble_eq_true rfl) dL_acts_311 (Nat.zero_le _) (Nat.zero_le _) ?_
                        refine lv_if_ne (tgt := 321) hx hb dL_acts_314 (by decide) (fun c_314 => ?_) (fun c_314 => ?_)
                        · skip
                          refine (c_314 ?_).elim; exact (han_0 hn10 hT hR c_277 c_282).2
                        · skip
                          refine lv_iconst (v := 1) hx hb dL_acts_317 (by decide) ?_
                          refine lv_goto (tgt := 322) hx hb dL_acts_318 (by decide) ?_
                          exact q_mzret hx hb hr hlk dL_acts_322 hP hS (rfl) (congrArg (q_pqW g a b) ((act_1 (by omega) (by omega)).symm))
                    · skip
                      have c_282 : (hasS (v_now V) (actT V z) (actR z)) = true := bI_ne c_282
                      refine lv_iload hx hb dL_acts_285 (lv_at hl 0 rfl) ?_
                      refine lv_bipush (v := (-5)) hx hb dL_acts_287 (by decide) ?_
                      refine lv_icmp_ne (tgt := 321) hx hb dL_acts_289 (by decide) (fun c_289 => ?_) (fun c_289 => ?_)
                      · skip
                        refine (c_289 ?_).elim; exact (han_5 hn10 hT hR (by first | exact Or.inl c_277 | exact Or.inr c_282))
                      · skip
                        refine lv_goto (tgt := 317) hx hb dL_acts_292 (by decide) ?_
                        refine lv_iconst (v := 1) hx hb dL_acts_317 (by decide) ?_
                        refine lv_goto (tgt := 322) hx hb dL_acts_318 (by decide) ?_
                        exact q_mzret hx hb hr hlk dL_acts_322 hP hS (rfl) (congrArg (q_pqW g a b) ((act_1 (by omega) (by omega)).symm))
                · skip
                  exact absurd c_263 c_7
            by_cases w_103_3 : (nI (z % 11)) = 3
            · skip
              have tx_103 : (nI (z % 11) : Int32).toInt = 3 := by rw [w_103_3]; decide
              refine lv_tableIn (tgt := 238) (off := 135) hx hb dL_acts_103 (by rw [tx_103]; decide) (by rw [tx_103]; decide) (by rw [tx_103]; rfl) (by decide) ?_
              have hc : z % 11 = 3 := (nI_eq (b := 3) (by omega) (by decide)).mp w_103_3
              refine lv_aload_n hx hb dL_acts_238 rfl (lv_at hl 7 rfl) ?_
              refine lv_iload_n hx hb dL_acts_239 rfl (lv_at hl 8 rfl) ?_
              refine lv_iconst (v := 5) hx hb dL_acts_240 (by decide) ?_
              refine lv_ishr hx hb dL_acts_241 ?_
              refine q_reI (show (((nI z) >>> (5 &&& 31)) : Int32) = nI (z / 32) from sh_5 (by omega)) ?_
              refine lv_iconst (v := 0) hx hb dL_acts_242 (by decide) ?_
              refine q_reI (show (0 : Int32) = bI false from rfl) ?_
              refine q_SM (As := [.ref (b 0), .int (nI (z / 32)), .int (bI false)]) (rest := []) (st2 := [.int (bI true)]) ⟨hx, hb, hml, hown, hts⟩ (c_L_tells l g a b V hI (z / 32) false (by first | omega | assumption) (by first | omega | assumption)) (va_cwS 3 hts gL_acts_L_tells rfl rfl rfl (by decide +kernel) ⟨Nat.le_of_ble_eq_true rfl, Nat.le_of_ble_eq_true rfl⟩) q_B_blind (q_B_of hP hK hN) rfl hl.1 rfl (Nat.le_of_ble_eq_true rfl) dL_acts_243 (Nat.zero_le _) (Nat.zero_le _) hS (fun _ h => h) rfl rfl rfl (fun H locs hP _ hS _ => ?_)
              have hP : va_P g.1 vwCl (q_pqW g a b (telV V (z / 32) false 10)) H := hP
              have hD : va_D (q_adr a b) (q_pqW g a b (telV V (z / 32) false 10)) := q_D hI (fun _ h => h)
              have hv1 := tel_iv hv (z / 32) false
              obtain ⟨ho1, hpx1, hpl1, hh1, hn1⟩ := id hv1
              have hn11 := ok_n ho1
              refine lv_istore (lv' := [(10, .int (bI true)), (8, .int (bI (tldS (v_now V) (actT V z) (actR z)))), (7, .int (bI (hasS (v_now V) (actT V z) (actR z)))), (6, .int (bI (isOp (v_now V) (actR z)))), (5, .int (nI (actR z))), (4, .int (nI (actO V z))), (3, .int (nI (actT V z))), (2, .int (nI (s_n (v_now V)))), (0, .ref (b 0)), (1, .int (nI z))]) hx hb dL_acts_246 hl (by decide) rfl (fun ls hl => ?_)
              refine lv_aload_n hx hb dL_acts_248 rfl (lv_at hl 8 rfl) ?_
              refine lv_iload_n hx hb dL_acts_249 rfl (lv_at hl 6 rfl) ?_
              refine lv_iload hx hb dL_acts_250 (lv_at hl 4 rfl) ?_
              refine q_VM (As := [.int (nI (actT V z)), .int (nI (actR z))]) (rest := []) (st2 := [.int (hanR (telV V (z / 32) false 10) (nI (actT V z)) (nI (actR z)))]) ⟨hx, hb, hml, hown, hts⟩ (c_X4_hand l g a b (telV V (z / 32) false 10) hI (nI (actT V z)) (nI (actR z)) (by first | omega | assumption) (by first | omega | assumption) (by first | omega | assumption) (by first | omega | assumption)) (cwV 2 hts gL_acts_X4_hand rfl rfl rfl (by decide +kernel) ⟨Nat.le_of_ble_eq_true rfl, Nat.le_of_ble_eq_true rfl⟩) q_B_blind (va_recv hK hP (ci := 3) (q0 := 0) rfl rfl) (q_B_of hP hK hN) rfl hl.1 rfl (Nat.le_of_ble_eq_true rfl) dL_acts_252 (Nat.zero_le _) (Nat.zero_le _) hS (fun _ h => h) rfl rfl rfl (fun H locs hP _ hS _ => ?_)
              have hP : va_P g.1 vwCl (q_pqW g a b (hanV (telV V (z / 32) false 10) (nI (actT V z)) (nI (actR z)))) H := hP
              have hD : va_D (q_adr a b) (q_pqW g a b (hanV (telV V (z / 32) false 10) (nI (actT V z)) (nI (actR z)))) := q_D hI (fun _ h => h)
              have hn2 : s_n (v_now (hanV (telV V (z / 32) false 10) (nI (actT V z)) (nI (actR z)))) ≤ 10 := ok_n (iv_han hv1 _ _).1
              refine lv_istore (lv' := [(11, .int (hanR (telV V (z / 32) false 10) (nI (actT V z)) (nI (actR z)))), (10, .int (bI true)), (8, .int (bI (tldS (v_now V) (actT V z) (actR z)))), (7, .int (bI (hasS (v_now V) (actT V z) (actR z)))), (6, .int (bI (isOp (v_now V) (actR z)))), (5, .int (nI (actR z))), (4, .int (nI (actO V z))), (3, .int (nI (actT V z))), (2, .int (nI (s_n (v_now V)))), (0, .ref (b 0)), (1, .int (nI z))]) hx hb dL_acts_255 hl (by decide) rfl (fun ls hl => ?_)
              refine lv_iload hx hb dL_acts_257 (lv_at hl 1 rfl) ?_
              refine lv_if_eq (tgt := 321) hx hb dL_acts_259 (by decide) (fun c_259 => ?_) (fun c_259 => ?_)
              · skip
                have c_259 : true = false := bI_eq c_259
                exact absurd c_259 (by decide)
              · skip
                have c_259 : true = true := bI_ne c_259
                refine lv_iload_n hx hb dL_acts_262 rfl (lv_at hl 8 rfl) ?_
                refine lv_if_ne (tgt := 275) hx hb dL_acts_263 (by decide) (fun c_263 => ?_) (fun c_263 => ?_)
                · skip
                  refine lv_iload hx hb dL_acts_275 (lv_at hl 4 rfl) ?_
                  refine lv_if_eq (tgt := 285) hx hb dL_acts_277 (by decide) (fun c_277 => ?_) (fun c_277 => ?_)
                  · skip
                    have c_277 : (isOp (v_now V) (actR z)) = false := bI_eq c_277
                    refine lv_iload hx hb dL_acts_285 (lv_at hl 0 rfl) ?_
                    refine lv_bipush (v := (-5)) hx hb dL_acts_287 (by decide) ?_
                    refine lv_icmp_ne (tgt := 321) hx hb dL_acts_289 (by decide) (fun c_289 => ?_) (fun c_289 => ?_)
                    · skip
                      refine (c_289 ?_).elim; exact (han_5 hn10 hT hR (by first | exact Or.inl c_277 | exact Or.inr c_282))
                    · skip
                      refine lv_goto (tgt := 317) hx hb dL_acts_292 (by decide) ?_
                      refine lv_iconst (v := 1) hx hb dL_acts_317 (by decide) ?_
                      refine lv_goto (tgt := 322) hx hb dL_acts_318 (by decide) ?_
                      exact q_mzret hx hb hr hlk dL_acts_322 hP hS (rfl) (congrArg (q_pqW g a b) ((act_1 (by omega) (by omega)).symm))
                  · skip
                    have c_277 : (isOp (v_now V) (actR z)) = true := bI_ne c_277
                    refine lv_iload hx hb dL_acts_280 (lv_at hl 3 rfl) ?_
                    refine lv_if_eq (tgt := 295) hx hb dL_acts_282 (by decide) (fun c_282 => ?_) (fun c_282 => ?_)
                    · skip
                      have c_282 : (hasS (v_now V) (actT V z) (actR z)) = false := bI_eq c_282
                      refine lv_iload hx hb dL_acts_295 (lv_at hl 0 rfl) ?_
                      refine lv_aload_n hx hb dL_acts_297 rfl (lv_at hl 9 rfl) ?_
                      refine lv_iload_n hx hb dL_acts_298 rfl (lv_at hl 7 rfl) ?_
                      refine lv_iload hx hb dL_acts_299 (lv_at hl 5 rfl) ?_
                      refine lv_iconst (v := 4) hx hb dL_acts_301 (by decide) ?_
                      refine q_V (As := [.int (nI (actT V z)), .int (nI (actR z)), .int 4]) (rest := [.int (hanR (telV V (z / 32) false 10) (nI (actT V z)) (nI (actR z)))]) ⟨hx, hb, hml, hown, hts⟩ (c_X4_sheet l g a b (hanV (telV V (z / 32) false 10) (nI (actT V z)) (nI (actR z))) (nI (actT V z)) (nI (actR z)) 4 (by first | omega | assumption)) (cwV 3 hts gL_acts_X4_sheet rfl rfl rfl (by decide +kernel) ⟨Nat.le_of_ble_eq_true rfl, Nat.le_of_ble_eq_true rfl⟩) q_B_blind (va_recv hK hP (ci := 3) (q0 := 0) rfl rfl) (q_B_of hP hK hN) rfl hl.1 rfl (Nat.le_of_ble_eq_true rfl) dL_acts_302 (Nat.zero_le _) (Nat.zero_le _) ?_
                      refine lv_icmp_ne (tgt := 321) hx hb dL_acts_305 (by decide) (fun c_305 => ?_) (fun c_305 => ?_)
                      · skip
                        refine (c_305 ?_).elim; exact (han_0 hn10 hT hR c_277 c_282).1
                      · skip
                        refine lv_aload_n hx hb dL_acts_308 rfl (lv_at hl 9 rfl) ?_
                        refine lv_bipush (v := 13) hx hb dL_acts_309 (by decide) ?_
                        refine q_V (As := [.int 13]) (rest := []) ⟨hx, hb, hml, hown, hts⟩ (c_X4_count l g a b (hanV (telV V (z / 32) false 10) (nI (actT V z)) (nI (actR z))) 13 (by first | omega | assumption)) (cwV 1 hts gL_acts_X4_count rfl rfl rfl (by decide +kernel) ⟨Nat.le_of_ble_eq_true rfl, Nat.le_of_ble_eq_true rfl⟩) q_B_blind (va_recv hK hP (ci := 3) (q0 := 0) rfl rfl) (q_B_of hP hK hN) rfl hl.1 rfl (Nat.le_of_ble_eq_true rfl) dL_acts_311 (Nat.zero_le _) (Nat.zero_le _) ?_
                        refine lv_if_ne (tgt := 321) hx hb dL_acts_314 (by decide) (fun c_314 => ?_) (fun c_314 => ?_)
                        · skip
                          refine (c_314 ?_).elim; exact (han_0 hn10 hT hR c_277 c_282).2
                        · skip
                          refine lv_iconst (v := 1) hx hb dL_acts_317 (by decide) ?_
                          refine lv_goto (tgt := 322) hx hb dL_acts_318 (by decide) ?_
                          exact q_mzret hx hb hr hlk dL_acts_322 hP hS (rfl) (congrArg (q_pqW g a b) ((act_1 (by omega) (by omega)).symm))
                    · skip
                      have c_282 : (hasS (v_now V) (actT V z) (actR z)) = true := bI_ne c_282
                      refine lv_iload hx hb dL_acts_285 (lv_at hl 0 rfl) ?_
                      refine lv_bipush (v := (-5)) hx hb dL_acts_287 (by decide) ?_
                      refine lv_icmp_ne (tgt := 321) hx hb dL_acts_289 (by decide) (fun c_289 => ?_) (fun c_289 => ?_)
                      · skip
                        refine (c_289 ?_).elim; exact (han_5 hn10 hT hR (by first | exact Or.inl c_277 | exact Or.inr c_282))
                      · skip
                        refine lv_goto (tgt := 317) hx hb dL_acts_292 (by decide) ?_
                        refine lv_iconst (v := 1) hx hb dL_acts_317 (by decide) ?_
                        refine lv_goto (tgt := 322) hx hb dL_acts_318 (by decide) ?_
                        exact q_mzret hx hb hr hlk dL_acts_322 hP hS (rfl) (congrArg (q_pqW g a b) ((act_1 (by omega) (by omega)).symm))
                · skip
                  exact absurd c_263 c_7
            by_cases w_103_4 : (nI (z % 11)) = 4
            · skip
              have tx_103 : (nI (z % 11) : Int32).toInt = 4 := by rw [w_103_4]; decide
              refine lv_tableIn (tgt := 323) (off := 220) hx hb dL_acts_103 (by rw [tx_103]; decide) (by rw [tx_103]; decide) (by rw [tx_103]; rfl) (by decide) ?_
              have hc : z % 11 = 4 := (nI_eq (b := 4) (by omega) (by decide)).mp w_103_4
              refine lv_iload_n hx hb dL_acts_323 rfl (lv_at hl 6 rfl) ?_
              have J_351 : W p l e { frames := 7, cells := 0, slots := 0, locals := 163 } s m args below meth c s.heap [] 0 0 (MQ below (q_QM g (q_adr a b) (q_pqW g a b (actV V z)) (some (.int (bI true)))) args s 0 0 (q_adr a b)) (F0 m 351 ls [.int (bI (jkF (v_now V) (actT V z) (actR z)))]) := by
                refine lv_istore (lv' := [(12, .int (bI (jkF (v_now V) (actT V z) (actR z)))), (8, .int (bI (tldS (v_now V) (actT V z) (actR z)))), (7, .int (bI (hasS (v_now V) (actT V z) (actR z)))), (6, .int (bI (isOp (v_now V) (actR z)))), (5, .int (nI (actR z))), (4, .int (nI (actO V z))), (3, .int (nI (actT V z))), (2, .int (nI (s_n (v_now V)))), (0, .ref (b 0)), (1, .int (nI z))]) hx hb dL_acts_351 hl (by decide) rfl (fun ls hl => ?_)
                refine lv_aload_n hx hb dL_acts_353 rfl (lv_at hl 8 rfl) ?_
                refine lv_iload_n hx hb dL_acts_354 rfl (lv_at hl 6 rfl) ?_
                refine lv_iload hx hb dL_acts_355 (lv_at hl 4 rfl) ?_
                refine q_VM (As := [.int (nI (actT V z)), .int (nI (actR z))]) (rest := []) (st2 := [.int (jokR V (nI (actT V z)) (nI (actR z)))]) ⟨hx, hb, hml, hown, hts⟩ (c_X4_joker l g a b V hI (nI (actT V z)) (nI (actR z)) (by first | omega | assumption) (by first | omega | assumption) (by first | omega | assumption)) (cwV 2 hts gL_acts_X4_joker rfl rfl rfl (by decide +kernel) ⟨Nat.le_of_ble_eq_true rfl, Nat.le_of_ble_eq_true rfl⟩) q_B_blind (va_recv hK hP (ci := 3) (q0 := 0) rfl rfl) (q_B_of hP hK hN) rfl hl.1 rfl (Nat.le_of_ble_eq_true rfl) dL_acts_357 (Nat.zero_le _) (Nat.zero_le _) hS (fun _ h => h) rfl rfl rfl (fun H locs hP _ hS _ => ?_)
                have hP : va_P g.1 vwCl (q_pqW g a b (jokV V (nI (actT V z)) (nI (actR z)))) H := hP
                have hD : va_D (q_adr a b) (q_pqW g a b (jokV V (nI (actT V z)) (nI (actR z)))) := q_D hI (fun _ h => h)
                have hn2 : s_n (v_now (jokV V (nI (actT V z)) (nI (actR z)))) ≤ 10 := ok_n (iv_jok hv _ _).1
                refine lv_istore (lv' := [(13, .int (jokR V (nI (actT V z)) (nI (actR z)))), (12, .int (bI (jkF (v_now V) (actT V z) (actR z)))), (8, .int (bI (tldS (v_now V) (actT V z) (actR z)))), (7, .int (bI (hasS (v_now V) (actT V z) (actR z)))), (6, .int (bI (isOp (v_now V) (actR z)))), (5, .int (nI (actR z))), (4, .int (nI (actO V z))), (3, .int (nI (actT V z))), (2, .int (nI (s_n (v_now V)))), (0, .ref (b 0)), (1, .int (nI z))]) hx hb dL_acts_360 hl (by decide) rfl (fun ls hl => ?_)
                refine lv_iload_n hx hb dL_acts_362 rfl (lv_at hl 8 rfl) ?_
                refine lv_if_ne (tgt := 380) hx hb dL_acts_363 (by decide) (fun c_363 => ?_) (fun c_363 => ?_)
                · skip
                  refine lv_iload hx hb dL_acts_380 (lv_at hl 1 rfl) ?_
                  refine lv_if_ne (tgt := 400) hx hb dL_acts_382 (by decide) (fun c_382 => ?_) (fun c_382 => ?_)
                  · skip
                    have c_382 : (jkF (v_now V) (actT V z) (actR z)) = true := bI_ne c_382
                    refine lv_iload hx hb dL_acts_400 (lv_at hl 0 rfl) ?_
                    refine lv_aload_n hx hb dL_acts_402 rfl (lv_at hl 9 rfl) ?_
                    refine lv_iload hx hb dL_acts_403 (lv_at hl 5 rfl) ?_
                    refine lv_iconst (v := 2) hx hb dL_acts_405 (by decide) ?_
                    refine q_V (As := [.int (nI (actR z)), .int 2]) (rest := [.int (jokR V (nI (actT V z)) (nI (actR z)))]) ⟨hx, hb, hml, hown, hts⟩ (c_X4_ofRound l g a b (jokV V (nI (actT V z)) (nI (actR z))) (nI (actR z)) 2 (by first | omega | assumption)) (cwV 2 hts gL_acts_X4_ofRound rfl rfl rfl (by decide +kernel) ⟨Nat.le_of_ble_eq_true rfl, Nat.le_of_ble_eq_true rfl⟩) q_B_blind (va_recv hK hP (ci := 3) (q0 := 0) rfl rfl) (q_B_of hP hK hN) rfl hl.1 rfl (Nat.le_of_ble_eq_true rfl) dL_acts_406 (Nat.zero_le _) (Nat.zero_le _) ?_
                    refine q_S (As := [.int (ofrR (jokV V (nI (actT V z)) (nI (actR z))) (nI (actR z)) 2)]) (rest := [.int (jokR V (nI (actT V z)) (nI (actR z)))]) ⟨hx, hb, hml, hown, hts⟩ (c_L_bits l (ofrR (jokV V (nI (actT V z)) (nI (actR z))) (nI (actR z)) 2) ) (va_cwS 1 hts gL_acts_L_bits rfl rfl rfl (by decide +kernel) ⟨Nat.le_of_ble_eq_true rfl, Nat.le_of_ble_eq_true rfl⟩) q_Blind_t (fun _ _ _ => trivial) rfl hl.1 rfl (Nat.le_of_ble_eq_true rfl) dL_acts_409 (Nat.zero_le _) (Nat.zero_le _) ?_
                    refine lv_icmp_ne (tgt := 430) hx hb dL_acts_412 (by decide) (fun c_412 => ?_) (fun c_412 => ?_)
                    · skip
                      refine (c_412 ?_).elim; exact (jok_0 ho hT hR c_382).1
                    · skip
                      refine lv_aload_n hx hb dL_acts_415 rfl (lv_at hl 9 rfl) ?_
                      refine lv_iload_n hx hb dL_acts_416 rfl (lv_at hl 7 rfl) ?_
                      refine lv_iconst (v := 3) hx hb dL_acts_417 (by decide) ?_
                      refine q_V (As := [.int (nI (actT V z)), .int 3]) (rest := []) ⟨hx, hb, hml, hown, hts⟩ (c_X4_ofTeam l g a b (jokV V (nI (actT V z)) (nI (actR z))) (nI (actT V z)) 3 (by first | omega | assumption)) (cwV 2 hts gL_acts_X4_ofTeam rfl rfl rfl (by decide +kernel) ⟨Nat.le_of_ble_eq_true rfl, Nat.le_of_ble_eq_true rfl⟩) q_B_blind (va_recv hK hP (ci := 3) (q0 := 0) rfl rfl) (q_B_of hP hK hN) rfl hl.1 rfl (Nat.le_of_ble_eq_true rfl) dL_acts_418 (Nat.zero_le _) (Nat.zero_le _) ?_
                      refine lv_iload hx hb dL_acts_421 (lv_at hl 5 rfl) ?_
                      refine lv_icmp_ne (tgt := 430) hx hb dL_acts_423 (by decide) (fun c_423 => ?_) (fun c_423 => ?_)
                      · skip
                        refine (c_423 ?_).elim; exact (jok_0 ho hT hR c_382).2
                      · skip
                        refine lv_iconst (v := 1) hx hb dL_acts_426 (by decide) ?_
                        refine lv_goto (tgt := 431) hx hb dL_acts_427 (by decide) ?_
                        exact q_mzret hx hb hr hlk dL_acts_431 hP hS (rfl) (congrArg (q_pqW g a b) ((act_4 hc).symm))
                  · skip
                    have c_382 : (jkF (v_now V) (actT V z) (actR z)) = false := bI_eq c_382
                    refine lv_iload hx hb dL_acts_385 (lv_at hl 0 rfl) ?_
                    refine lv_bipush (v := (-5)) hx hb dL_acts_387 (by decide) ?_
                    refine lv_icmp_ne (tgt := 396) hx hb dL_acts_389 (by decide) (fun c_389 => ?_) (fun c_389 => ?_)
                    · skip
                      refine (c_389 ?_).elim; exact (jok_5 ho hT hR c_382)
                    · skip
                      refine lv_iconst (v := 1) hx hb dL_acts_392 (by decide) ?_
                      refine lv_goto (tgt := 431) hx hb dL_acts_393 (by decide) ?_
                      exact q_mzret hx hb hr hlk dL_acts_431 hP hS (rfl) (congrArg (q_pqW g a b) ((act_4 hc).symm))
                · skip
                  exact absurd c_363 c_7
              refine lv_if_le (tgt := 350) hx hb dL_acts_324 (by decide) (fun c_324 => ?_) (fun c_324 => ?_)
              · skip
                exact absurd c_324 (nI_nle (by omega) (by omega))
              · skip
                refine lv_aload_n hx hb dL_acts_327 rfl (lv_at hl 7 rfl) ?_
                refine lv_iload_n hx hb dL_acts_328 rfl (lv_at hl 5 rfl) ?_
                refine lv_iconst (v := 3) hx hb dL_acts_329 (by decide) ?_
                refine q_V (As := [.int (nI (actT V z)), .int 3]) (rest := []) ⟨hx, hb, hml, hown, hts⟩ (c_X4_ofTeam l g a b V (nI (actT V z)) 3 (by first | omega | assumption)) (cwV 2 hts gL_acts_X4_ofTeam rfl rfl rfl (by decide +kernel) ⟨Nat.le_of_ble_eq_true rfl, Nat.le_of_ble_eq_true rfl⟩) q_B_blind (va_recv hK hP (ci := 3) (q0 := 0) rfl rfl) (q_B_of hP hK hN) rfl hl.1 rfl (Nat.le_of_ble_eq_true rfl) dL_acts_330 (Nat.zero_le _) (Nat.zero_le _) ?_
                refine q_reI (show (oftR V (nI (actT V z)) 3 : Int32) = s_jok (v_now V) (actT V z) from w_o3 hn10 hT) ?_
                refine lv_if_ge (tgt := 350) hx hb dL_acts_333 (by decide) (fun c_333 => ?_) (fun c_333 => ?_)
                · skip
                  have d_333 : ¬ s_jok (v_now V) (actT V z) < 0 := Int32.not_lt.mpr c_333
                  refine lv_iconst (v := 0) hx hb dL_acts_350 (by decide) ?_
                  refine q_reI (show (0 : Int32) = bI (jkF (v_now V) (actT V z) (actR z)) from by simp [jkF, bI, c_7, w_103_0, w_103_1, w_103_2, w_103_3, w_103_4, c_324, d_333, c_333]) J_351
                · skip
                  have d_333 : s_jok (v_now V) (actT V z) < 0 := Int32.not_le.mp c_333
                  refine lv_iload hx hb dL_acts_336 (lv_at hl 2 rfl) ?_
                  refine lv_if_eq (tgt := 350) hx hb dL_acts_338 (by decide) (fun c_338 => ?_) (fun c_338 => ?_)
                  · skip
                    have c_338 : (isOp (v_now V) (actR z)) = false := bI_eq c_338
                    refine lv_iconst (v := 0) hx hb dL_acts_350 (by decide) ?_
                    refine q_reI (show (0 : Int32) = bI (jkF (v_now V) (actT V z) (actR z)) from by simp [jkF, bI, c_7, w_103_0, w_103_1, w_103_2, w_103_3, w_103_4, c_324, d_333, c_333, c_338]) J_351
                  · skip
                    have c_338 : (isOp (v_now V) (actR z)) = true := bI_ne c_338
                    refine lv_iload hx hb dL_acts_341 (lv_at hl 1 rfl) ?_
                    refine lv_if_ne (tgt := 350) hx hb dL_acts_343 (by decide) (fun c_343 => ?_) (fun c_343 => ?_)
                    · skip
                      have c_343 : (hasS (v_now V) (actT V z) (actR z)) = true := bI_ne c_343
                      refine lv_iconst (v := 0) hx hb dL_acts_350 (by decide) ?_
                      refine q_reI (show (0 : Int32) = bI (jkF (v_now V) (actT V z) (actR z)) from by simp [jkF, bI, c_7, w_103_0, w_103_1, w_103_2, w_103_3, w_103_4, c_324, d_333, c_333, c_338, c_343]) J_351
                    · skip
                      have c_343 : (hasS (v_now V) (actT V z) (actR z)) = false := bI_eq c_343
                      refine lv_iconst (v := 1) hx hb dL_acts_346 (by decide) ?_
                      refine lv_goto (tgt := 351) hx hb dL_acts_347 (by decide) ?_
                      refine q_reI (show (1 : Int32) = bI (jkF (v_now V) (actT V z) (actR z)) from by simp [jkF, bI, c_7, w_103_0, w_103_1, w_103_2, w_103_3, w_103_4, c_324, d_333, c_333, c_338, c_343]) J_351
            by_cases w_103_5 : (nI (z % 11)) = 5
            · skip
              have tx_103 : (nI (z % 11) : Int32).toInt = 5 := by rw [w_103_5]; decide
              refine lv_tableIn (tgt := 432) (off := 329) hx hb dL_acts_103 (by rw [tx_103]; decide) (by rw [tx_103]; decide) (by rw [tx_103]; rfl) (by decide) ?_
              have hc : z % 11 = 5 := (nI_eq (b := 5) (by omega) (by decide)).mp w_103_5
              refine lv_iload_n hx hb dL_acts_432 rfl (lv_at hl 8 rfl) ?_
              refine lv_bipush (v := 8) hx hb dL_acts_433 (by decide) ?_
              refine lv_ishr hx hb dL_acts_435 ?_
              refine q_reI (show (((nI z) >>> (8 &&& 31)) : Int32) = nI (z / 256) from sh_8 (by omega)) ?_
              refine lv_iconst (v := 3) hx hb dL_acts_436 (by decide) ?_
              refine lv_irem hx hb dL_acts_437 (by decide) ?_
              refine q_reI (show ((nI (z / 256)) - (nI (z / 256)) / 3 * 3 : Int32) = nI (z / 256 % 3) from pk_rem (d := 3) (by omega) (by decide) (by decide)) ?_
              refine lv_if_gt (tgt := 453) hx hb dL_acts_438 (by decide) (fun c_438 => ?_) (fun c_438 => ?_)
              · skip
                have d_438 : 0 < z / 256 % 3 := (nI_ltI (a := 0) (by decide) (by omega)).mp c_438
                refine lv_iconst (v := 1) hx hb dL_acts_453 (by decide) ?_
                refine lv_goto (tgt := 458) hx hb dL_acts_454 (by decide) ?_
                refine lv_istore (lv' := [(14, .int 1), (8, .int (bI (tldS (v_now V) (actT V z) (actR z)))), (7, .int (bI (hasS (v_now V) (actT V z) (actR z)))), (6, .int (bI (isOp (v_now V) (actR z)))), (5, .int (nI (actR z))), (4, .int (nI (actO V z))), (3, .int (nI (actT V z))), (2, .int (nI (s_n (v_now V)))), (0, .ref (b 0)), (1, .int (nI z))]) hx hb dL_acts_458 hl (by decide) rfl (fun ls hl => ?_)
                refine lv_aload_n hx hb dL_acts_460 rfl (lv_at hl 8 rfl) ?_
                refine lv_iload hx hb dL_acts_461 (lv_at hl 4 rfl) ?_
                refine lv_iconst (v := 1) hx hb dL_acts_463 (by decide) ?_
                refine q_V (As := [.int (nI (actR z)), .int 1]) (rest := []) ⟨hx, hb, hml, hown, hts⟩ (c_X4_ofRound l g a b V (nI (actR z)) 1 (by first | omega | assumption)) (cwV 2 hts gL_acts_X4_ofRound rfl rfl rfl (by decide +kernel) ⟨Nat.le_of_ble_eq_true rfl, Nat.le_of_ble_eq_true rfl⟩) q_B_blind (va_recv hK hP (ci := 3) (q0 := 0) rfl rfl) (q_B_of hP hK hN) rfl hl.1 rfl (Nat.le_of_ble_eq_true rfl) dL_acts_464 (Nat.zero_le _) (Nat.zero_le _) ?_
                refine q_S (As := [.int (ofrR V (nI (actR z)) 1)]) (rest := []) ⟨hx, hb, hml, hown, hts⟩ (c_L_bits l (ofrR V (nI (actR z)) 1) ) (va_cwS 1 hts gL_acts_L_bits rfl rfl rfl (by decide +kernel) ⟨Nat.le_of_ble_eq_true rfl, Nat.le_of_ble_eq_true rfl⟩) q_Blind_t (fun _ _ _ => trivial) rfl hl.1 rfl (Nat.le_of_ble_eq_true rfl) dL_acts_467 (Nat.zero_le _) (Nat.zero_le _) ?_
                refine lv_istore (lv' := [(15, .int (bitI (ofrR V (nI (actR z)) 1))), (14, .int 1), (8, .int (bI (tldS (v_now V) (actT V z) (actR z)))), (7, .int (bI (hasS (v_now V) (actT V z) (actR z)))), (6, .int (bI (isOp (v_now V) (actR z)))), (5, .int (nI (actR z))), (4, .int (nI (actO V z))), (3, .int (nI (actT V z))), (2, .int (nI (s_n (v_now V)))), (0, .ref (b 0)), (1, .int (nI z))]) hx hb dL_acts_470 hl (by decide) rfl (fun ls hl => ?_)
                refine lv_iload_n hx hb dL_acts_472 rfl (lv_at hl 10 rfl) ?_
                refine lv_bipush (v := 8) hx hb dL_acts_473 (by decide) ?_
                refine lv_ishr hx hb dL_acts_475 ?_
                refine q_reI (show (((nI z) >>> (8 &&& 31)) : Int32) = nI (z / 256) from sh_8 (by omega)) ?_
                refine lv_iconst (v := 3) hx hb dL_acts_476 (by decide) ?_
                refine lv_irem hx hb dL_acts_477 (by decide) ?_
                refine q_reI (show ((nI (z / 256)) - (nI (z / 256)) / 3 * 3 : Int32) = nI (z / 256 % 3) from pk_rem (d := 3) (by omega) (by decide) (by decide)) ?_
                refine lv_if_le (tgt := 485) hx hb dL_acts_478 (by decide) (fun c_478 => ?_) (fun c_478 => ?_)
                · skip
                  exact absurd c_478 (nI_nle d_438 (by omega))
                · skip
                  refine lv_iconst (v := 0) hx hb dL_acts_481 (by decide) ?_
                  refine lv_goto (tgt := 491) hx hb dL_acts_482 (by decide) ?_
                  refine lv_istore (lv' := [(16, .int 0), (15, .int (bitI (ofrR V (nI (actR z)) 1))), (14, .int 1), (8, .int (bI (tldS (v_now V) (actT V z) (actR z)))), (7, .int (bI (hasS (v_now V) (actT V z) (actR z)))), (6, .int (bI (isOp (v_now V) (actR z)))), (5, .int (nI (actR z))), (4, .int (nI (actO V z))), (3, .int (nI (actT V z))), (2, .int (nI (s_n (v_now V)))), (0, .ref (b 0)), (1, .int (nI z))]) hx hb dL_acts_491 hl (by decide) rfl (fun ls hl => ?_)
                  refine lv_iload hx hb dL_acts_493 (lv_at hl 2 rfl) ?_
                  refine lv_if_eq (tgt := 528) hx hb dL_acts_495 (by decide) (fun c_495 => ?_) (fun c_495 => ?_)
                  · skip
                    exact absurd c_495 (by decide)
                  · skip
                    refine lv_iload_n hx hb dL_acts_498 rfl (lv_at hl 11 rfl) ?_
                    refine lv_bipush (v := 8) hx hb dL_acts_499 (by decide) ?_
                    refine lv_ishr hx hb dL_acts_501 ?_
                    refine q_reI (show (((nI z) >>> (8 &&& 31)) : Int32) = nI (z / 256) from sh_8 (by omega)) ?_
                    refine lv_iconst (v := 3) hx hb dL_acts_502 (by decide) ?_
                    refine lv_irem hx hb dL_acts_503 (by decide) ?_
                    refine q_reI (show ((nI (z / 256)) - (nI (z / 256)) / 3 * 3 : Int32) = nI (z / 256 % 3) from pk_rem (d := 3) (by omega) (by decide) (by decide)) ?_
                    refine lv_if_gt (tgt := 524) hx hb dL_acts_504 (by decide) (fun c_504 => ?_) (fun c_504 => ?_)
                    · skip
                      refine lv_iconst (v := 1) hx hb dL_acts_524 (by decide) ?_
                      refine lv_goto (tgt := 529) hx hb dL_acts_525 (by decide) ?_
                      exact q_mzret hx hb hr hlk dL_acts_529 hP hS (rfl) (congrArg (q_pqW g a b) (by first | exact (act_5a hc d_438).symm | exact (act_5b hc d_438).symm))
                    · skip
                      refine (c_504 ?_).elim; exact (nI_lt (a := 0) d_438 (by omega))
              · skip
                have d_438 : ¬ 0 < z / 256 % 3 := fun q => c_438 (nI_lt (a := 0) q (by omega))
                refine lv_aload_n hx hb dL_acts_441 rfl (lv_at hl 7 rfl) ?_
                refine lv_iload_n hx hb dL_acts_442 rfl (lv_at hl 8 rfl) ?_
                refine lv_bipush (v := 7) hx hb dL_acts_443 (by decide) ?_
                refine lv_ishr hx hb dL_acts_445 ?_
                refine q_reI (show (((nI z) >>> (7 &&& 31)) : Int32) = nI (z / 128) from sh_7 (by omega)) ?_
                refine lv_iconst (v := 1) hx hb dL_acts_446 (by decide) ?_
                refine q_reI (show (1 : Int32) = bI true from rfl) ?_
                refine q_SM (As := [.ref (b 0), .int (nI (z / 128)), .int (bI true)]) (rest := []) (st2 := [.int (bI true)]) ⟨hx, hb, hml, hown, hts⟩ (c_L_tells l g a b V hI (z / 128) true (by first | omega | assumption) (by first | omega | assumption)) (va_cwS 3 hts gL_acts_L_tells rfl rfl rfl (by decide +kernel) ⟨Nat.le_of_ble_eq_true rfl, Nat.le_of_ble_eq_true rfl⟩) q_B_blind (q_B_of hP hK hN) rfl hl.1 rfl (Nat.le_of_ble_eq_true rfl) dL_acts_447 (Nat.zero_le _) (Nat.zero_le _) hS (fun _ h => h) rfl rfl rfl (fun H locs hP _ hS _ => ?_)
                have hP : va_P g.1 vwCl (q_pqW g a b (telV V (z / 128) true 10)) H := hP
                have hD : va_D (q_adr a b) (q_pqW g a b (telV V (z / 128) true 10)) := q_D hI (fun _ h => h)
                have hv1 := tel_iv hv (z / 128) true
                obtain ⟨ho1, hpx1, hpl1, hh1, hn1⟩ := id hv1
                have hn11 := ok_n ho1
                refine lv_if_eq (tgt := 457) hx hb dL_acts_450 (by decide) (fun c_450 => ?_) (fun c_450 => ?_)
                · skip
                  have c_450 : true = false := bI_eq c_450
                  exact absurd c_450 (by decide)
                · skip
                  have c_450 : true = true := bI_ne c_450
                  refine lv_iconst (v := 1) hx hb dL_acts_453 (by decide) ?_
                  refine lv_goto (tgt := 458) hx hb dL_acts_454 (by decide) ?_
                  refine lv_istore (lv' := [(14, .int 1), (8, .int (bI (tldS (v_now V) (actT V z) (actR z)))), (7, .int (bI (hasS (v_now V) (actT V z) (actR z)))), (6, .int (bI (isOp (v_now V) (actR z)))), (5, .int (nI (actR z))), (4, .int (nI (actO V z))), (3, .int (nI (actT V z))), (2, .int (nI (s_n (v_now V)))), (0, .ref (b 0)), (1, .int (nI z))]) hx hb dL_acts_458 hl (by decide) rfl (fun ls hl => ?_)
                  refine lv_aload_n hx hb dL_acts_460 rfl (lv_at hl 8 rfl) ?_
                  refine lv_iload hx hb dL_acts_461 (lv_at hl 4 rfl) ?_
                  refine lv_iconst (v := 1) hx hb dL_acts_463 (by decide) ?_
                  refine q_V (As := [.int (nI (actR z)), .int 1]) (rest := []) ⟨hx, hb, hml, hown, hts⟩ (c_X4_ofRound l g a b (telV V (z / 128) true 10) (nI (actR z)) 1 (by first | omega | assumption)) (cwV 2 hts gL_acts_X4_ofRound rfl rfl rfl (by decide +kernel) ⟨Nat.le_of_ble_eq_true rfl, Nat.le_of_ble_eq_true rfl⟩) q_B_blind (va_recv hK hP (ci := 3) (q0 := 0) rfl rfl) (q_B_of hP hK hN) rfl hl.1 rfl (Nat.le_of_ble_eq_true rfl) dL_acts_464 (Nat.zero_le _) (Nat.zero_le _) ?_
                  refine q_S (As := [.int (ofrR (telV V (z / 128) true 10) (nI (actR z)) 1)]) (rest := []) ⟨hx, hb, hml, hown, hts⟩ (c_L_bits l (ofrR (telV V (z / 128) true 10) (nI (actR z)) 1) ) (va_cwS 1 hts gL_acts_L_bits rfl rfl rfl (by decide +kernel) ⟨Nat.le_of_ble_eq_true rfl, Nat.le_of_ble_eq_true rfl⟩) q_Blind_t (fun _ _ _ => trivial) rfl hl.1 rfl (Nat.le_of_ble_eq_true rfl) dL_acts_467 (Nat.zero_le _) (Nat.zero_le _) ?_
                  refine lv_istore (lv' := [(15, .int (bitI (ofrR (telV V (z / 128) true 10) (nI (actR z)) 1))), (14, .int 1), (8, .int (bI (tldS (v_now V) (actT V z) (actR z)))), (7, .int (bI (hasS (v_now V) (actT V z) (actR z)))), (6, .int (bI (isOp (v_now V) (actR z)))), (5, .int (nI (actR z))), (4, .int (nI (actO V z))), (3, .int (nI (actT V z))), (2, .int (nI (s_n (v_now V)))), (0, .ref (b 0)), (1, .int (nI z))]) hx hb dL_acts_470 hl (by decide) rfl (fun ls hl => ?_)
                  refine lv_iload_n hx hb dL_acts_472 rfl (lv_at hl 10 rfl) ?_
                  refine lv_bipush (v := 8) hx hb dL_acts_473 (by decide) ?_
                  refine lv_ishr hx hb dL_acts_475 ?_
                  refine q_reI (show (((nI z) >>> (8 &&& 31)) : Int32) = nI (z / 256) from sh_8 (by omega)) ?_
                  refine lv_iconst (v := 3) hx hb dL_acts_476 (by decide) ?_
                  refine lv_irem hx hb dL_acts_477 (by decide) ?_
                  refine q_reI (show ((nI (z / 256)) - (nI (z / 256)) / 3 * 3 : Int32) = nI (z / 256 % 3) from pk_rem (d := 3) (by omega) (by decide) (by decide)) ?_
                  refine lv_if_le (tgt := 485) hx hb dL_acts_478 (by decide) (fun c_478 => ?_) (fun c_478 => ?_)
                  · skip
                    refine lv_aload_n hx hb dL_acts_485 rfl (lv_at hl 9 rfl) ?_
                    refine lv_iload hx hb dL_acts_486 (lv_at hl 5 rfl) ?_
                    refine q_VM (As := [.int (nI (actR z))]) (rest := []) (st2 := [.int (keyR (telV V (z / 128) true 10) (nI (actR z)))]) ⟨hx, hb, hml, hown, hts⟩ (c_X4_key l g a b (telV V (z / 128) true 10) hI (nI (actR z)) (by first | omega | assumption) (by first | omega | assumption) (by first | omega | assumption) (by first | omega | assumption)) (cwV 1 hts gL_acts_X4_key rfl rfl rfl (by decide +kernel) ⟨Nat.le_of_ble_eq_true rfl, Nat.le_of_ble_eq_true rfl⟩) q_B_blind (va_recv hK hP (ci := 3) (q0 := 0) rfl rfl) (q_B_of hP hK hN) rfl hl.1 rfl (Nat.le_of_ble_eq_true rfl) dL_acts_488 (Nat.zero_le _) (Nat.zero_le _) hS (fun _ h => h) rfl rfl rfl (fun H locs hP _ hS _ => ?_)
                    have hP : va_P g.1 vwCl (q_pqW g a b (keyV (telV V (z / 128) true 10) (nI (actR z)))) H := hP
                    have hD : va_D (q_adr a b) (q_pqW g a b (keyV (telV V (z / 128) true 10) (nI (actR z)))) := q_D hI (fun _ h => h)
                    refine lv_istore (lv' := [(16, .int (keyR (telV V (z / 128) true 10) (nI (actR z)))), (15, .int (bitI (ofrR (telV V (z / 128) true 10) (nI (actR z)) 1))), (14, .int 1), (8, .int (bI (tldS (v_now V) (actT V z) (actR z)))), (7, .int (bI (hasS (v_now V) (actT V z) (actR z)))), (6, .int (bI (isOp (v_now V) (actR z)))), (5, .int (nI (actR z))), (4, .int (nI (actO V z))), (3, .int (nI (actT V z))), (2, .int (nI (s_n (v_now V)))), (0, .ref (b 0)), (1, .int (nI z))]) hx hb dL_acts_491 hl (by decide) rfl (fun ls hl => ?_)
                    refine lv_iload hx hb dL_acts_493 (lv_at hl 2 rfl) ?_
                    refine lv_if_eq (tgt := 528) hx hb dL_acts_495 (by decide) (fun c_495 => ?_) (fun c_495 => ?_)
                    · skip
                      exact absurd c_495 (by decide)
                    · skip
                      refine lv_iload_n hx hb dL_acts_498 rfl (lv_at hl 11 rfl) ?_
                      refine lv_bipush (v := 8) hx hb dL_acts_499 (by decide) ?_
                      refine lv_ishr hx hb dL_acts_501 ?_
                      refine q_reI (show (((nI z) >>> (8 &&& 31)) : Int32) = nI (z / 256) from sh_8 (by omega)) ?_
                      refine lv_iconst (v := 3) hx hb dL_acts_502 (by decide) ?_
                      refine lv_irem hx hb dL_acts_503 (by decide) ?_
                      refine q_reI (show ((nI (z / 256)) - (nI (z / 256)) / 3 * 3 : Int32) = nI (z / 256 % 3) from pk_rem (d := 3) (by omega) (by decide) (by decide)) ?_
                      refine lv_if_gt (tgt := 524) hx hb dL_acts_504 (by decide) (fun c_504 => ?_) (fun c_504 => ?_)
                      · skip
                        refine (d_438 ?_).elim; exact ((nI_ltI (a := 0) (by decide) (by omega)).mp c_504)
                      · skip
                        refine lv_iload hx hb dL_acts_507 (lv_at hl 0 rfl) ?_
                        refine lv_iload hx hb dL_acts_509 (lv_at hl 5 rfl) ?_
                        refine lv_if_eq (tgt := 519) hx hb dL_acts_511 (by decide) (fun c_511 => ?_) (fun c_511 => ?_)
                        · skip
                          have c_511 : (isOp (v_now V) (actR z)) = false := bI_eq c_511
                          refine lv_bipush (v := (-5)) hx hb dL_acts_519 (by decide) ?_
                          refine lv_icmp_ne (tgt := 528) hx hb dL_acts_521 (by decide) (fun c_521 => ?_) (fun c_521 => ?_)
                          · skip
                            first | refine (c_521 ?_).elim; exact (key_5 hR c_511) | refine (c_521 ?_).elim; exact (key_0 hn10 hR c_511)
                          · skip
                            refine lv_iconst (v := 1) hx hb dL_acts_524 (by decide) ?_
                            refine lv_goto (tgt := 529) hx hb dL_acts_525 (by decide) ?_
                            exact q_mzret hx hb hr hlk dL_acts_529 hP hS (rfl) (congrArg (q_pqW g a b) (by first | exact (act_5a hc d_438).symm | exact (act_5b hc d_438).symm))
                        · skip
                          have c_511 : (isOp (v_now V) (actR z)) = true := bI_ne c_511
                          refine lv_iload hx hb dL_acts_514 (lv_at hl 1 rfl) ?_
                          refine lv_goto (tgt := 521) hx hb dL_acts_516 (by decide) ?_
                          refine lv_icmp_ne (tgt := 528) hx hb dL_acts_521 (by decide) (fun c_521 => ?_) (fun c_521 => ?_)
                          · skip
                            first | refine (c_521 ?_).elim; exact (key_5 hR c_511) | refine (c_521 ?_).elim; exact (key_0 hn10 hR c_511)
                          · skip
                            refine lv_iconst (v := 1) hx hb dL_acts_524 (by decide) ?_
                            refine lv_goto (tgt := 529) hx hb dL_acts_525 (by decide) ?_
                            exact q_mzret hx hb hr hlk dL_acts_529 hP hS (rfl) (congrArg (q_pqW g a b) (by first | exact (act_5a hc d_438).symm | exact (act_5b hc d_438).symm))
                  · skip
                    refine (c_478 ?_).elim; exact (by rw [show z / 256 % 3 = 0 from by omega]; decide)
            by_cases w_103_6 : (nI (z % 11)) = 6
            · skip
              have tx_103 : (nI (z % 11) : Int32).toInt = 6 := by rw [w_103_6]; decide
              refine lv_tableIn (tgt := 530) (off := 427) hx hb dL_acts_103 (by rw [tx_103]; decide) (by rw [tx_103]; decide) (by rw [tx_103]; rfl) (by decide) ?_
              have hc : z % 11 = 6 := (nI_eq (b := 6) (by omega) (by decide)).mp w_103_6
              refine lv_iload_n hx hb dL_acts_530 rfl (lv_at hl 8 rfl) ?_
              refine lv_bipush (v := 15) hx hb dL_acts_531 (by decide) ?_
              refine lv_ishr hx hb dL_acts_533 ?_
              refine q_reI (show (((nI z) >>> (15 &&& 31)) : Int32) = nI (z / 32768) from sh_15 (by omega)) ?_
              refine lv_iconst (v := 2) hx hb dL_acts_534 (by decide) ?_
              refine lv_irem hx hb dL_acts_535 (by decide) ?_
              refine q_reI (show ((nI (z / 32768)) - (nI (z / 32768)) / 2 * 2 : Int32) = nI (z / 32768 % 2) from pk_rem (d := 2) (by omega) (by decide) (by decide)) ?_
              have J_589 : W p l e { frames := 7, cells := 0, slots := 0, locals := 163 } s m args below meth c s.heap [] 0 0 (MQ below (q_QM g (q_adr a b) (q_pqW g a b (actV V z)) (some (.int (bI true)))) args s 0 0 (q_adr a b)) (F0 m 589 ls [.int (actM V z)]) := by
                refine lv_istore (lv' := [(17, .int (actM V z)), (8, .int (bI (tldS (v_now V) (actT V z) (actR z)))), (7, .int (bI (hasS (v_now V) (actT V z) (actR z)))), (6, .int (bI (isOp (v_now V) (actR z)))), (5, .int (nI (actR z))), (4, .int (nI (actO V z))), (3, .int (nI (actT V z))), (2, .int (nI (s_n (v_now V)))), (0, .ref (b 0)), (1, .int (nI z))]) hx hb dL_acts_589 hl (by decide) rfl (fun ls hl => ?_)
                refine lv_aload_n hx hb dL_acts_591 rfl (lv_at hl 8 rfl) ?_
                refine lv_iload hx hb dL_acts_592 (lv_at hl 5 rfl) ?_
                refine lv_iload_n hx hb dL_acts_594 rfl (lv_at hl 6 rfl) ?_
                refine lv_iload hx hb dL_acts_595 (lv_at hl 4 rfl) ?_
                refine lv_iload hx hb dL_acts_597 (lv_at hl 0 rfl) ?_
                refine q_VM (As := [.int (nI (actO V z)), .int (nI (actT V z)), .int (nI (actR z)), .int (actM V z)]) (rest := []) (st2 := [.int (marR V (nI (actO V z)) (nI (actT V z)) (nI (actR z)) (actM V z))]) ⟨hx, hb, hml, hown, hts⟩ (c_X4_mark l g a b V hI (nI (actO V z)) (nI (actT V z)) (nI (actR z)) (actM V z) (by first | omega | assumption) (by first | omega | assumption) (by first | omega | assumption)) (cwV 4 hts gL_acts_X4_mark rfl rfl rfl (by decide +kernel) ⟨Nat.le_of_ble_eq_true rfl, Nat.le_of_ble_eq_true rfl⟩) q_B_blind (va_recv hK hP (ci := 3) (q0 := 0) rfl rfl) (q_B_of hP hK hN) rfl hl.1 rfl (Nat.le_of_ble_eq_true rfl) dL_acts_599 (Nat.zero_le _) (Nat.zero_le _) hS (fun _ h => h) rfl rfl rfl (fun H locs hP _ hS _ => ?_)
                have hP : va_P g.1 vwCl (q_pqW g a b (marV V (nI (actO V z)) (nI (actT V z)) (nI (actR z)) (actM V z))) H := hP
                have hD : va_D (q_adr a b) (q_pqW g a b (marV V (nI (actO V z)) (nI (actT V z)) (nI (actR z)) (actM V z))) := q_D hI (fun _ h => h)
                have hn2 : s_n (v_now (marV V (nI (actO V z)) (nI (actT V z)) (nI (actR z)) (actM V z))) ≤ 10 := ok_n (iv_mar hv _ _ _ _).1
                refine lv_istore (lv' := [(18, .int (marR V (nI (actO V z)) (nI (actT V z)) (nI (actR z)) (actM V z))), (17, .int (actM V z)), (8, .int (bI (tldS (v_now V) (actT V z) (actR z)))), (7, .int (bI (hasS (v_now V) (actT V z) (actR z)))), (6, .int (bI (isOp (v_now V) (actR z)))), (5, .int (nI (actR z))), (4, .int (nI (actO V z))), (3, .int (nI (actT V z))), (2, .int (nI (s_n (v_now V)))), (0, .ref (b 0)), (1, .int (nI z))]) hx hb dL_acts_602 hl (by decide) rfl (fun ls hl => ?_)
                refine lv_iload_n hx hb dL_acts_604 rfl (lv_at hl 8 rfl) ?_
                refine lv_if_ne (tgt := 622) hx hb dL_acts_605 (by decide) (fun c_605 => ?_) (fun c_605 => ?_)
                · skip
                  refine lv_iload hx hb dL_acts_622 (lv_at hl 6 rfl) ?_
                  refine lv_iload_n hx hb dL_acts_624 rfl (lv_at hl 7 rfl) ?_
                  refine lv_icmp_ne (tgt := 643) hx hb dL_acts_625 (by decide) (fun c_625 => ?_) (fun c_625 => ?_)
                  · skip
                    refine lv_iload hx hb dL_acts_643 (lv_at hl 4 rfl) ?_
                    refine lv_if_ne (tgt := 658) hx hb dL_acts_645 (by decide) (fun c_645 => ?_) (fun c_645 => ?_)
                    · skip
                      have c_645 : (isOp (v_now V) (actR z)) = true := bI_ne c_645
                      refine lv_iload hx hb dL_acts_658 (lv_at hl 0 rfl) ?_
                      refine lv_bipush (v := (-5)) hx hb dL_acts_660 (by decide) ?_
                      refine lv_icmp_ne (tgt := 669) hx hb dL_acts_662 (by decide) (fun c_662 => ?_) (fun c_662 => ?_)
                      · skip
                        refine (c_662 ?_).elim; exact (mar_5 hn10 hO hT hR c_625 (actM_rg V z) (by first | exact Or.inl c_645 | exact Or.inr (Or.inl c_650) | exact Or.inr (Or.inr c_655)))
                      · skip
                        refine lv_iconst (v := 1) hx hb dL_acts_665 (by decide) ?_
                        refine lv_goto (tgt := 713) hx hb dL_acts_666 (by decide) ?_
                        exact q_mzret hx hb hr hlk dL_acts_713 hP hS (rfl) (congrArg (q_pqW g a b) ((act_6 (by omega)).symm))
                    · skip
                      have c_645 : (isOp (v_now V) (actR z)) = false := bI_eq c_645
                      refine lv_iload hx hb dL_acts_648 (lv_at hl 3 rfl) ?_
                      refine lv_if_eq (tgt := 658) hx hb dL_acts_650 (by decide) (fun c_650 => ?_) (fun c_650 => ?_)
                      · skip
                        have c_650 : (hasS (v_now V) (actT V z) (actR z)) = false := bI_eq c_650
                        refine lv_iload hx hb dL_acts_658 (lv_at hl 0 rfl) ?_
                        refine lv_bipush (v := (-5)) hx hb dL_acts_660 (by decide) ?_
                        refine lv_icmp_ne (tgt := 669) hx hb dL_acts_662 (by decide) (fun c_662 => ?_) (fun c_662 => ?_)
                        · skip
                          refine (c_662 ?_).elim; exact (mar_5 hn10 hO hT hR c_625 (actM_rg V z) (by first | exact Or.inl c_645 | exact Or.inr (Or.inl c_650) | exact Or.inr (Or.inr c_655)))
                        · skip
                          refine lv_iconst (v := 1) hx hb dL_acts_665 (by decide) ?_
                          refine lv_goto (tgt := 713) hx hb dL_acts_666 (by decide) ?_
                          exact q_mzret hx hb hr hlk dL_acts_713 hP hS (rfl) (congrArg (q_pqW g a b) ((act_6 (by omega)).symm))
                      · skip
                        have c_650 : (hasS (v_now V) (actT V z) (actR z)) = true := bI_ne c_650
                        refine lv_iload hx hb dL_acts_653 (lv_at hl 2 rfl) ?_
                        refine lv_if_eq (tgt := 673) hx hb dL_acts_655 (by decide) (fun c_655 => ?_) (fun c_655 => ?_)
                        · skip
                          have c_655 : (tldS (v_now V) (actT V z) (actR z)) = false := bI_eq c_655
                          refine lv_iload hx hb dL_acts_673 (lv_at hl 0 rfl) ?_
                          refine lv_iconst (v := 1) hx hb dL_acts_675 (by decide) ?_
                          refine lv_icmp_ne (tgt := 712) hx hb dL_acts_676 (by decide) (fun c_676 => ?_) (fun c_676 => ?_)
                          · skip
                            refine (c_676 ?_).elim; exact (mar_0 hn10 hO hT hR c_625 (actM_rg V z) c_645 c_650 c_655).1
                          · skip
                            refine lv_aload_n hx hb dL_acts_679 rfl (lv_at hl 9 rfl) ?_
                            refine lv_iload_n hx hb dL_acts_680 rfl (lv_at hl 7 rfl) ?_
                            refine lv_iload hx hb dL_acts_681 (lv_at hl 5 rfl) ?_
                            refine lv_iconst (v := 0) hx hb dL_acts_683 (by decide) ?_
                            refine q_V (As := [.int (nI (actT V z)), .int (nI (actR z)), .int 0]) (rest := []) ⟨hx, hb, hml, hown, hts⟩ (c_X4_sheet l g a b (marV V (nI (actO V z)) (nI (actT V z)) (nI (actR z)) (actM V z)) (nI (actT V z)) (nI (actR z)) 0 (by first | omega | assumption)) (cwV 3 hts gL_acts_X4_sheet rfl rfl rfl (by decide +kernel) ⟨Nat.le_of_ble_eq_true rfl, Nat.le_of_ble_eq_true rfl⟩) q_B_blind (va_recv hK hP (ci := 3) (q0 := 0) rfl rfl) (q_B_of hP hK hN) rfl hl.1 rfl (Nat.le_of_ble_eq_true rfl) dL_acts_684 (Nat.zero_le _) (Nat.zero_le _) ?_
                            refine lv_iload hx hb dL_acts_687 (lv_at hl 1 rfl) ?_
                            refine lv_bipush (v := 100) hx hb dL_acts_689 (by decide) ?_
                            refine lv_iadd hx hb dL_acts_691 ?_
                            refine lv_icmp_ne (tgt := 712) hx hb dL_acts_692 (by decide) (fun c_692 => ?_) (fun c_692 => ?_)
                            · skip
                              refine (c_692 ?_).elim; exact (mar_0 hn10 hO hT hR c_625 (actM_rg V z) c_645 c_650 c_655).2.1
                            · skip
                              refine lv_aload_n hx hb dL_acts_695 rfl (lv_at hl 9 rfl) ?_
                              refine lv_iload_n hx hb dL_acts_696 rfl (lv_at hl 7 rfl) ?_
                              refine lv_iload hx hb dL_acts_697 (lv_at hl 5 rfl) ?_
                              refine lv_iconst (v := 1) hx hb dL_acts_699 (by decide) ?_
                              refine q_V (As := [.int (nI (actT V z)), .int (nI (actR z)), .int 1]) (rest := []) ⟨hx, hb, hml, hown, hts⟩ (c_X4_sheet l g a b (marV V (nI (actO V z)) (nI (actT V z)) (nI (actR z)) (actM V z)) (nI (actT V z)) (nI (actR z)) 1 (by first | omega | assumption)) (cwV 3 hts gL_acts_X4_sheet rfl rfl rfl (by decide +kernel) ⟨Nat.le_of_ble_eq_true rfl, Nat.le_of_ble_eq_true rfl⟩) q_B_blind (va_recv hK hP (ci := 3) (q0 := 0) rfl rfl) (q_B_of hP hK hN) rfl hl.1 rfl (Nat.le_of_ble_eq_true rfl) dL_acts_700 (Nat.zero_le _) (Nat.zero_le _) ?_
                              refine lv_iload hx hb dL_acts_703 (lv_at hl 6 rfl) ?_
                              refine lv_icmp_ne (tgt := 712) hx hb dL_acts_705 (by decide) (fun c_705 => ?_) (fun c_705 => ?_)
                              · skip
                                refine (c_705 ?_).elim; exact (mar_0 hn10 hO hT hR c_625 (actM_rg V z) c_645 c_650 c_655).2.2
                              · skip
                                refine lv_iconst (v := 1) hx hb dL_acts_708 (by decide) ?_
                                refine lv_goto (tgt := 713) hx hb dL_acts_709 (by decide) ?_
                                exact q_mzret hx hb hr hlk dL_acts_713 hP hS (rfl) (congrArg (q_pqW g a b) ((act_6 (by omega)).symm))
                        · skip
                          have c_655 : (tldS (v_now V) (actT V z) (actR z)) = true := bI_ne c_655
                          refine lv_iload hx hb dL_acts_658 (lv_at hl 0 rfl) ?_
                          refine lv_bipush (v := (-5)) hx hb dL_acts_660 (by decide) ?_
                          refine lv_icmp_ne (tgt := 669) hx hb dL_acts_662 (by decide) (fun c_662 => ?_) (fun c_662 => ?_)
                          · skip
                            refine (c_662 ?_).elim; exact (mar_5 hn10 hO hT hR c_625 (actM_rg V z) (by first | exact Or.inl c_645 | exact Or.inr (Or.inl c_650) | exact Or.inr (Or.inr c_655)))
                          · skip
                            refine lv_iconst (v := 1) hx hb dL_acts_665 (by decide) ?_
                            refine lv_goto (tgt := 713) hx hb dL_acts_666 (by decide) ?_
                            exact q_mzret hx hb hr hlk dL_acts_713 hP hS (rfl) (congrArg (q_pqW g a b) ((act_6 (by omega)).symm))
                  · skip
                    refine lv_iload hx hb dL_acts_628 (lv_at hl 0 rfl) ?_
                    refine lv_bipush (v := (-2)) hx hb dL_acts_630 (by decide) ?_
                    refine lv_icmp_ne (tgt := 639) hx hb dL_acts_632 (by decide) (fun c_632 => ?_) (fun c_632 => ?_)
                    · skip
                      refine (c_632 ?_).elim; exact (mar_2 hn10 hO hT hR c_625)
                    · skip
                      refine lv_iconst (v := 1) hx hb dL_acts_635 (by decide) ?_
                      refine lv_goto (tgt := 713) hx hb dL_acts_636 (by decide) ?_
                      exact q_mzret hx hb hr hlk dL_acts_713 hP hS (rfl) (congrArg (q_pqW g a b) ((act_6 (by omega)).symm))
                · skip
                  exact absurd c_605 c_7
              refine lv_if_ne (tgt := 579) hx hb dL_acts_536 (by decide) (fun c_536 => ?_) (fun c_536 => ?_)
              · skip
                refine lv_iload_n hx hb dL_acts_579 rfl (lv_at hl 8 rfl) ?_
                refine lv_bipush (v := 16) hx hb dL_acts_580 (by decide) ?_
                refine lv_ishr hx hb dL_acts_582 ?_
                refine q_reI (show (((nI z) >>> (16 &&& 31)) : Int32) = nI (z / 65536) from sh_16 (by omega)) ?_
                refine lv_bipush (v := 31) hx hb dL_acts_583 (by decide) ?_
                refine lv_irem hx hb dL_acts_585 (by decide) ?_
                refine q_reI (show ((nI (z / 65536)) - (nI (z / 65536)) / 31 * 31 : Int32) = nI (z / 65536 % 31) from pk_rem (d := 31) (by omega) (by decide) (by decide)) ?_
                refine lv_bipush (v := 20) hx hb dL_acts_586 (by decide) ?_
                refine lv_isub hx hb dL_acts_588 ?_
                refine q_reI (show (((nI (z / 65536 % 31)) - 20) : Int32) = actM V z from by simp [actM, c_7, w_103_0, w_103_1, w_103_2, w_103_3, w_103_4, w_103_5, w_103_6, c_536]) J_589
              · skip
                refine lv_aload_n hx hb dL_acts_539 rfl (lv_at hl 7 rfl) ?_
                refine lv_iload_n hx hb dL_acts_540 rfl (lv_at hl 5 rfl) ?_
                refine lv_iload hx hb dL_acts_541 (lv_at hl 3 rfl) ?_
                refine lv_iconst (v := 3) hx hb dL_acts_543 (by decide) ?_
                refine q_V (As := [.int (nI (actT V z)), .int (nI (actR z)), .int 3]) (rest := []) ⟨hx, hb, hml, hown, hts⟩ (c_X4_sheet l g a b V (nI (actT V z)) (nI (actR z)) 3 (by first | omega | assumption)) (cwV 3 hts gL_acts_X4_sheet rfl rfl rfl (by decide +kernel) ⟨Nat.le_of_ble_eq_true rfl, Nat.le_of_ble_eq_true rfl⟩) q_B_blind (va_recv hK hP (ci := 3) (q0 := 0) rfl rfl) (q_B_of hP hK hN) rfl hl.1 rfl (Nat.le_of_ble_eq_true rfl) dL_acts_544 (Nat.zero_le _) (Nat.zero_le _) ?_
                refine q_reI (show (sheR V (nI (actT V z)) (nI (actR z)) 3 : Int32) = w_tr (v_now V) (actT V z) (actR z) from w_trV hn10 hT hR) ?_
                refine lv_bipush (v := 80) hx hb dL_acts_547 (by decide) ?_
                refine lv_icmp_lt (tgt := 579) hx hb dL_acts_549 (by decide) (fun c_549 => ?_) (fun c_549 => ?_)
                · skip
                  refine lv_iload_n hx hb dL_acts_579 rfl (lv_at hl 8 rfl) ?_
                  refine lv_bipush (v := 16) hx hb dL_acts_580 (by decide) ?_
                  refine lv_ishr hx hb dL_acts_582 ?_
                  refine q_reI (show (((nI z) >>> (16 &&& 31)) : Int32) = nI (z / 65536) from sh_16 (by omega)) ?_
                  refine lv_bipush (v := 31) hx hb dL_acts_583 (by decide) ?_
                  refine lv_irem hx hb dL_acts_585 (by decide) ?_
                  refine q_reI (show ((nI (z / 65536)) - (nI (z / 65536)) / 31 * 31 : Int32) = nI (z / 65536 % 31) from pk_rem (d := 31) (by omega) (by decide) (by decide)) ?_
                  refine lv_bipush (v := 20) hx hb dL_acts_586 (by decide) ?_
                  refine lv_isub hx hb dL_acts_588 ?_
                  refine q_reI (show (((nI (z / 65536 % 31)) - 20) : Int32) = actM V z from by simp [actM, c_7, w_103_0, w_103_1, w_103_2, w_103_3, w_103_4, w_103_5, w_103_6, c_536, c_549]) J_589
                · skip
                  refine lv_aload_n hx hb dL_acts_552 rfl (lv_at hl 7 rfl) ?_
                  refine lv_iload_n hx hb dL_acts_553 rfl (lv_at hl 5 rfl) ?_
                  refine lv_iload hx hb dL_acts_554 (lv_at hl 3 rfl) ?_
                  refine lv_iconst (v := 3) hx hb dL_acts_556 (by decide) ?_
                  refine q_V (As := [.int (nI (actT V z)), .int (nI (actR z)), .int 3]) (rest := []) ⟨hx, hb, hml, hown, hts⟩ (c_X4_sheet l g a b V (nI (actT V z)) (nI (actR z)) 3 (by first | omega | assumption)) (cwV 3 hts gL_acts_X4_sheet rfl rfl rfl (by decide +kernel) ⟨Nat.le_of_ble_eq_true rfl, Nat.le_of_ble_eq_true rfl⟩) q_B_blind (va_recv hK hP (ci := 3) (q0 := 0) rfl rfl) (q_B_of hP hK hN) rfl hl.1 rfl (Nat.le_of_ble_eq_true rfl) dL_acts_557 (Nat.zero_le _) (Nat.zero_le _) ?_
                  refine q_reI (show (sheR V (nI (actT V z)) (nI (actR z)) 3 : Int32) = w_tr (v_now V) (actT V z) (actR z) from w_trV hn10 hT hR) ?_
                  refine lv_bipush (v := 111) hx hb dL_acts_560 (by decide) ?_
                  refine lv_icmp_ge (tgt := 579) hx hb dL_acts_562 (by decide) (fun c_562 => ?_) (fun c_562 => ?_)
                  · skip
                    refine lv_iload_n hx hb dL_acts_579 rfl (lv_at hl 8 rfl) ?_
                    refine lv_bipush (v := 16) hx hb dL_acts_580 (by decide) ?_
                    refine lv_ishr hx hb dL_acts_582 ?_
                    refine q_reI (show (((nI z) >>> (16 &&& 31)) : Int32) = nI (z / 65536) from sh_16 (by omega)) ?_
                    refine lv_bipush (v := 31) hx hb dL_acts_583 (by decide) ?_
                    refine lv_irem hx hb dL_acts_585 (by decide) ?_
                    refine q_reI (show ((nI (z / 65536)) - (nI (z / 65536)) / 31 * 31 : Int32) = nI (z / 65536 % 31) from pk_rem (d := 31) (by omega) (by decide) (by decide)) ?_
                    refine lv_bipush (v := 20) hx hb dL_acts_586 (by decide) ?_
                    refine lv_isub hx hb dL_acts_588 ?_
                    refine q_reI (show (((nI (z / 65536 % 31)) - 20) : Int32) = actM V z from by simp [actM, c_7, w_103_0, w_103_1, w_103_2, w_103_3, w_103_4, w_103_5, w_103_6, c_536, c_549, c_562]) J_589
                  · skip
                    refine lv_aload_n hx hb dL_acts_565 rfl (lv_at hl 7 rfl) ?_
                    refine lv_iload_n hx hb dL_acts_566 rfl (lv_at hl 5 rfl) ?_
                    refine lv_iload hx hb dL_acts_567 (lv_at hl 3 rfl) ?_
                    refine lv_iconst (v := 3) hx hb dL_acts_569 (by decide) ?_
                    refine q_V (As := [.int (nI (actT V z)), .int (nI (actR z)), .int 3]) (rest := []) ⟨hx, hb, hml, hown, hts⟩ (c_X4_sheet l g a b V (nI (actT V z)) (nI (actR z)) 3 (by first | omega | assumption)) (cwV 3 hts gL_acts_X4_sheet rfl rfl rfl (by decide +kernel) ⟨Nat.le_of_ble_eq_true rfl, Nat.le_of_ble_eq_true rfl⟩) q_B_blind (va_recv hK hP (ci := 3) (q0 := 0) rfl rfl) (q_B_of hP hK hN) rfl hl.1 rfl (Nat.le_of_ble_eq_true rfl) dL_acts_570 (Nat.zero_le _) (Nat.zero_le _) ?_
                    refine q_reI (show (sheR V (nI (actT V z)) (nI (actR z)) 3 : Int32) = w_tr (v_now V) (actT V z) (actR z) from w_trV hn10 hT hR) ?_
                    refine lv_bipush (v := 100) hx hb dL_acts_573 (by decide) ?_
                    refine lv_isub hx hb dL_acts_575 ?_
                    refine lv_goto (tgt := 589) hx hb dL_acts_576 (by decide) ?_
                    refine q_reI (show (((w_tr (v_now V) (actT V z) (actR z)) - 100) : Int32) = actM V z from by simp [actM, c_7, w_103_0, w_103_1, w_103_2, w_103_3, w_103_4, w_103_5, w_103_6, c_536, c_549, c_562]) J_589
            by_cases w_103_7 : (nI (z % 11)) = 7
            · skip
              have tx_103 : (nI (z % 11) : Int32).toInt = 7 := by rw [w_103_7]; decide
              refine lv_tableIn (tgt := 530) (off := 427) hx hb dL_acts_103 (by rw [tx_103]; decide) (by rw [tx_103]; decide) (by rw [tx_103]; rfl) (by decide) ?_
              have hc : z % 11 = 7 := (nI_eq (b := 7) (by omega) (by decide)).mp w_103_7
              refine lv_iload_n hx hb dL_acts_530 rfl (lv_at hl 8 rfl) ?_
              refine lv_bipush (v := 15) hx hb dL_acts_531 (by decide) ?_
              refine lv_ishr hx hb dL_acts_533 ?_
              refine q_reI (show (((nI z) >>> (15 &&& 31)) : Int32) = nI (z / 32768) from sh_15 (by omega)) ?_
              refine lv_iconst (v := 2) hx hb dL_acts_534 (by decide) ?_
              refine lv_irem hx hb dL_acts_535 (by decide) ?_
              refine q_reI (show ((nI (z / 32768)) - (nI (z / 32768)) / 2 * 2 : Int32) = nI (z / 32768 % 2) from pk_rem (d := 2) (by omega) (by decide) (by decide)) ?_
              have J_589 : W p l e { frames := 7, cells := 0, slots := 0, locals := 163 } s m args below meth c s.heap [] 0 0 (MQ below (q_QM g (q_adr a b) (q_pqW g a b (actV V z)) (some (.int (bI true)))) args s 0 0 (q_adr a b)) (F0 m 589 ls [.int (actM V z)]) := by
                refine lv_istore (lv' := [(17, .int (actM V z)), (8, .int (bI (tldS (v_now V) (actT V z) (actR z)))), (7, .int (bI (hasS (v_now V) (actT V z) (actR z)))), (6, .int (bI (isOp (v_now V) (actR z)))), (5, .int (nI (actR z))), (4, .int (nI (actO V z))), (3, .int (nI (actT V z))), (2, .int (nI (s_n (v_now V)))), (0, .ref (b 0)), (1, .int (nI z))]) hx hb dL_acts_589 hl (by decide) rfl (fun ls hl => ?_)
                refine lv_aload_n hx hb dL_acts_591 rfl (lv_at hl 8 rfl) ?_
                refine lv_iload hx hb dL_acts_592 (lv_at hl 5 rfl) ?_
                refine lv_iload_n hx hb dL_acts_594 rfl (lv_at hl 6 rfl) ?_
                refine lv_iload hx hb dL_acts_595 (lv_at hl 4 rfl) ?_
                refine lv_iload hx hb dL_acts_597 (lv_at hl 0 rfl) ?_
                refine q_VM (As := [.int (nI (actO V z)), .int (nI (actT V z)), .int (nI (actR z)), .int (actM V z)]) (rest := []) (st2 := [.int (marR V (nI (actO V z)) (nI (actT V z)) (nI (actR z)) (actM V z))]) ⟨hx, hb, hml, hown, hts⟩ (c_X4_mark l g a b V hI (nI (actO V z)) (nI (actT V z)) (nI (actR z)) (actM V z) (by first | omega | assumption) (by first | omega | assumption) (by first | omega | assumption)) (cwV 4 hts gL_acts_X4_mark rfl rfl rfl (by decide +kernel) ⟨Nat.le_of_ble_eq_true rfl, Nat.le_of_ble_eq_true rfl⟩) q_B_blind (va_recv hK hP (ci := 3) (q0 := 0) rfl rfl) (q_B_of hP hK hN) rfl hl.1 rfl (Nat.le_of_ble_eq_true rfl) dL_acts_599 (Nat.zero_le _) (Nat.zero_le _) hS (fun _ h => h) rfl rfl rfl (fun H locs hP _ hS _ => ?_)
                have hP : va_P g.1 vwCl (q_pqW g a b (marV V (nI (actO V z)) (nI (actT V z)) (nI (actR z)) (actM V z))) H := hP
                have hD : va_D (q_adr a b) (q_pqW g a b (marV V (nI (actO V z)) (nI (actT V z)) (nI (actR z)) (actM V z))) := q_D hI (fun _ h => h)
                have hn2 : s_n (v_now (marV V (nI (actO V z)) (nI (actT V z)) (nI (actR z)) (actM V z))) ≤ 10 := ok_n (iv_mar hv _ _ _ _).1
                refine lv_istore (lv' := [(18, .int (marR V (nI (actO V z)) (nI (actT V z)) (nI (actR z)) (actM V z))), (17, .int (actM V z)), (8, .int (bI (tldS (v_now V) (actT V z) (actR z)))), (7, .int (bI (hasS (v_now V) (actT V z) (actR z)))), (6, .int (bI (isOp (v_now V) (actR z)))), (5, .int (nI (actR z))), (4, .int (nI (actO V z))), (3, .int (nI (actT V z))), (2, .int (nI (s_n (v_now V)))), (0, .ref (b 0)), (1, .int (nI z))]) hx hb dL_acts_602 hl (by decide) rfl (fun ls hl => ?_)
                refine lv_iload_n hx hb dL_acts_604 rfl (lv_at hl 8 rfl) ?_
                refine lv_if_ne (tgt := 622) hx hb dL_acts_605 (by decide) (fun c_605 => ?_) (fun c_605 => ?_)
                · skip
                  refine lv_iload hx hb dL_acts_622 (lv_at hl 6 rfl) ?_
                  refine lv_iload_n hx hb dL_acts_624 rfl (lv_at hl 7 rfl) ?_
                  refine lv_icmp_ne (tgt := 643) hx hb dL_acts_625 (by decide) (fun c_625 => ?_) (fun c_625 => ?_)
                  · skip
                    refine lv_iload hx hb dL_acts_643 (lv_at hl 4 rfl) ?_
                    refine lv_if_ne (tgt := 658) hx hb dL_acts_645 (by decide) (fun c_645 => ?_) (fun c_645 => ?_)
                    · skip
                      have c_645 : (isOp (v_now V) (actR z)) = true := bI_ne c_645
                      refine lv_iload hx hb dL_acts_658 (lv_at hl 0 rfl) ?_
                      refine lv_bipush (v := (-5)) hx hb dL_acts_660 (by decide) ?_
                      refine lv_icmp_ne (tgt := 669) hx hb dL_acts_662 (by decide) (fun c_662 => ?_) (fun c_662 => ?_)
                      · skip
                        refine (c_662 ?_).elim; exact (mar_5 hn10 hO hT hR c_625 (actM_rg V z) (by first | exact Or.inl c_645 | exact Or.inr (Or.inl c_650) | exact Or.inr (Or.inr c_655)))
                      · skip
                        refine lv_iconst (v := 1) hx hb dL_acts_665 (by decide) ?_
                        refine lv_goto (tgt := 713) hx hb dL_acts_666 (by decide) ?_
                        exact q_mzret hx hb hr hlk dL_acts_713 hP hS (rfl) (congrArg (q_pqW g a b) ((act_6 (by omega)).symm))
                    · skip
                      have c_645 : (isOp (v_now V) (actR z)) = false := bI_eq c_645
                      refine lv_iload hx hb dL_acts_648 (lv_at hl 3 rfl) ?_
                      refine lv_if_eq (tgt := 658) hx hb dL_acts_650 (by decide) (fun c_650 => ?_) (fun c_650 => ?_)
                      · skip
                        have c_650 : (hasS (v_now V) (actT V z) (actR z)) = false := bI_eq c_650
                        refine lv_iload hx hb dL_acts_658 (lv_at hl 0 rfl) ?_
                        refine lv_bipush (v := (-5)) hx hb dL_acts_660 (by decide) ?_
                        refine lv_icmp_ne (tgt := 669) hx hb dL_acts_662 (by decide) (fun c_662 => ?_) (fun c_662 => ?_)
                        · skip
                          refine (c_662 ?_).elim; exact (mar_5 hn10 hO hT hR c_625 (actM_rg V z) (by first | exact Or.inl c_645 | exact Or.inr (Or.inl c_650) | exact Or.inr (Or.inr c_655)))
                        · skip
                          refine lv_iconst (v := 1) hx hb dL_acts_665 (by decide) ?_
                          refine lv_goto (tgt := 713) hx hb dL_acts_666 (by decide) ?_
                          exact q_mzret hx hb hr hlk dL_acts_713 hP hS (rfl) (congrArg (q_pqW g a b) ((act_6 (by omega)).symm))
                      · skip
                        have c_650 : (hasS (v_now V) (actT V z) (actR z)) = true := bI_ne c_650
                        refine lv_iload hx hb dL_acts_653 (lv_at hl 2 rfl) ?_
                        refine lv_if_eq (tgt := 673) hx hb dL_acts_655 (by decide) (fun c_655 => ?_) (fun c_655 => ?_)
                        · skip
                          have c_655 : (tldS (v_now V) (actT V z) (actR z)) = false := bI_eq c_655
                          refine lv_iload hx hb dL_acts_673 (lv_at hl 0 rfl) ?_
                          refine lv_iconst (v := 1) hx hb dL_acts_675 (by decide) ?_
                          refine lv_icmp_ne (tgt := 712) hx hb dL_acts_676 (by decide) (fun c_676 => ?_) (fun c_676 => ?_)
                          · skip
                            refine (c_676 ?_).elim; exact (mar_0 hn10 hO hT hR c_625 (actM_rg V z) c_645 c_650 c_655).1
                          · skip
                            refine lv_aload_n hx hb dL_acts_679 rfl (lv_at hl 9 rfl) ?_
                            refine lv_iload_n hx hb dL_acts_680 rfl (lv_at hl 7 rfl) ?_
                            refine lv_iload hx hb dL_acts_681 (lv_at hl 5 rfl) ?_
                            refine lv_iconst (v := 0) hx hb dL_acts_683 (by decide) ?_
                            refine q_V (As := [.int (nI (actT V z)), .int (nI (actR z)), .int 0]) (rest := []) ⟨hx, hb, hml, hown, hts⟩ (c_X4_sheet l g a b (marV V (nI (actO V z)) (nI (actT V z)) (nI (actR z)) (actM V z)) (nI (actT V z)) (nI (actR z)) 0 (by first | omega | assumption)) (cwV 3 hts gL_acts_X4_sheet rfl rfl rfl (by decide +kernel) ⟨Nat.le_of_ble_eq_true rfl, Nat.le_of_ble_eq_true rfl⟩) q_B_blind (va_recv hK hP (ci := 3) (q0 := 0) rfl rfl) (q_B_of hP hK hN) rfl hl.1 rfl (Nat.le_of_ble_eq_true rfl) dL_acts_684 (Nat.zero_le _) (Nat.zero_le _) ?_
                            refine lv_iload hx hb dL_acts_687 (lv_at hl 1 rfl) ?_
                            refine lv_bipush (v := 100) hx hb dL_acts_689 (by decide) ?_
                            refine lv_iadd hx hb dL_acts_691 ?_
                            refine lv_icmp_ne (tgt := 712) hx hb dL_acts_692 (by decide) (fun c_692 => ?_) (fun c_692 => ?_)
                            · skip
                              refine (c_692 ?_).elim; exact (mar_0 hn10 hO hT hR c_625 (actM_rg V z) c_645 c_650 c_655).2.1
                            · skip
                              refine lv_aload_n hx hb dL_acts_695 rfl (lv_at hl 9 rfl) ?_
                              refine lv_iload_n hx hb dL_acts_696 rfl (lv_at hl 7 rfl) ?_
                              refine lv_iload hx hb dL_acts_697 (lv_at hl 5 rfl) ?_
                              refine lv_iconst (v := 1) hx hb dL_acts_699 (by decide) ?_
                              refine q_V (As := [.int (nI (actT V z)), .int (nI (actR z)), .int 1]) (rest := []) ⟨hx, hb, hml, hown, hts⟩ (c_X4_sheet l g a b (marV V (nI (actO V z)) (nI (actT V z)) (nI (actR z)) (actM V z)) (nI (actT V z)) (nI (actR z)) 1 (by first | omega | assumption)) (cwV 3 hts gL_acts_X4_sheet rfl rfl rfl (by decide +kernel) ⟨Nat.le_of_ble_eq_true rfl, Nat.le_of_ble_eq_true rfl⟩) q_B_blind (va_recv hK hP (ci := 3) (q0 := 0) rfl rfl) (q_B_of hP hK hN) rfl hl.1 rfl (Nat.le_of_ble_eq_true rfl) dL_acts_700 (Nat.zero_le _) (Nat.zero_le _) ?_
                              refine lv_iload hx hb dL_acts_703 (lv_at hl 6 rfl) ?_
                              refine lv_icmp_ne (tgt := 712) hx hb dL_acts_705 (by decide) (fun c_705 => ?_) (fun c_705 => ?_)
                              · skip
                                refine (c_705 ?_).elim; exact (mar_0 hn10 hO hT hR c_625 (actM_rg V z) c_645 c_650 c_655).2.2
                              · skip
                                refine lv_iconst (v := 1) hx hb dL_acts_708 (by decide) ?_
                                refine lv_goto (tgt := 713) hx hb dL_acts_709 (by decide) ?_
                                exact q_mzret hx hb hr hlk dL_acts_713 hP hS (rfl) (congrArg (q_pqW g a b) ((act_6 (by omega)).symm))
                        · skip
                          have c_655 : (tldS (v_now V) (actT V z) (actR z)) = true := bI_ne c_655
                          refine lv_iload hx hb dL_acts_658 (lv_at hl 0 rfl) ?_
                          refine lv_bipush (v := (-5)) hx hb dL_acts_660 (by decide) ?_
                          refine lv_icmp_ne (tgt := 669) hx hb dL_acts_662 (by decide) (fun c_662 => ?_) (fun c_662 => ?_)
                          · skip
                            refine (c_662 ?_).elim; exact (mar_5 hn10 hO hT hR c_625 (actM_rg V z) (by first | exact Or.inl c_645 | exact Or.inr (Or.inl c_650) | exact Or.inr (Or.inr c_655)))
                          · skip
                            refine lv_iconst (v := 1) hx hb dL_acts_665 (by decide) ?_
                            refine lv_goto (tgt := 713) hx hb dL_acts_666 (by decide) ?_
                            exact q_mzret hx hb hr hlk dL_acts_713 hP hS (rfl) (congrArg (q_pqW g a b) ((act_6 (by omega)).symm))
                  · skip
                    refine lv_iload hx hb dL_acts_628 (lv_at hl 0 rfl) ?_
                    refine lv_bipush (v := (-2)) hx hb dL_acts_630 (by decide) ?_
                    refine lv_icmp_ne (tgt := 639) hx hb dL_acts_632 (by decide) (fun c_632 => ?_) (fun c_632 => ?_)
                    · skip
                      refine (c_632 ?_).elim; exact (mar_2 hn10 hO hT hR c_625)
                    · skip
                      refine lv_iconst (v := 1) hx hb dL_acts_635 (by decide) ?_
                      refine lv_goto (tgt := 713) hx hb dL_acts_636 (by decide) ?_
                      exact q_mzret hx hb hr hlk dL_acts_713 hP hS (rfl) (congrArg (q_pqW g a b) ((act_6 (by omega)).symm))
                · skip
                  exact absurd c_605 c_7
              refine lv_if_ne (tgt := 579) hx hb dL_acts_536 (by decide) (fun c_536 => ?_) (fun c_536 => ?_)
              · skip
                refine lv_iload_n hx hb dL_acts_579 rfl (lv_at hl 8 rfl) ?_
                refine lv_bipush (v := 16) hx hb dL_acts_580 (by decide) ?_
                refine lv_ishr hx hb dL_acts_582 ?_
                refine q_reI (show (((nI z) >>> (16 &&& 31)) : Int32) = nI (z / 65536) from sh_16 (by omega)) ?_
                refine lv_bipush (v := 31) hx hb dL_acts_583 (by decide) ?_
                refine lv_irem hx hb dL_acts_585 (by decide) ?_
                refine q_reI (show ((nI (z / 65536)) - (nI (z / 65536)) / 31 * 31 : Int32) = nI (z / 65536 % 31) from pk_rem (d := 31) (by omega) (by decide) (by decide)) ?_
                refine lv_bipush (v := 20) hx hb dL_acts_586 (by decide) ?_
                refine lv_isub hx hb dL_acts_588 ?_
                refine q_reI (show (((nI (z / 65536 % 31)) - 20) : Int32) = actM V z from by simp [actM, c_7, w_103_0, w_103_1, w_103_2, w_103_3, w_103_4, w_103_5, w_103_6, w_103_7, c_536]) J_589
              · skip
                refine lv_aload_n hx hb dL_acts_539 rfl (lv_at hl 7 rfl) ?_
                refine lv_iload_n hx hb dL_acts_540 rfl (lv_at hl 5 rfl) ?_
                refine lv_iload hx hb dL_acts_541 (lv_at hl 3 rfl) ?_
                refine lv_iconst (v := 3) hx hb dL_acts_543 (by decide) ?_
                refine q_V (As := [.int (nI (actT V z)), .int (nI (actR z)), .int 3]) (rest := []) ⟨hx, hb, hml, hown, hts⟩ (c_X4_sheet l g a b V (nI (actT V z)) (nI (actR z)) 3 (by first | omega | assumption)) (cwV 3 hts gL_acts_X4_sheet rfl rfl rfl (by decide +kernel) ⟨Nat.le_of_ble_eq_true rfl, Nat.le_of_ble_eq_true rfl⟩) q_B_blind (va_recv hK hP (ci := 3) (q0 := 0) rfl rfl) (q_B_of hP hK hN) rfl hl.1 rfl (Nat.le_of_ble_eq_true rfl) dL_acts_544 (Nat.zero_le _) (Nat.zero_le _) ?_
                refine q_reI (show (sheR V (nI (actT V z)) (nI (actR z)) 3 : Int32) = w_tr (v_now V) (actT V z) (actR z) from w_trV hn10 hT hR) ?_
                refine lv_bipush (v := 80) hx hb dL_acts_547 (by decide) ?_
                refine lv_icmp_lt (tgt := 579) hx hb dL_acts_549 (by decide) (fun c_549 => ?_) (fun c_549 => ?_)
                · skip
                  refine lv_iload_n hx hb dL_acts_579 rfl (lv_at hl 8 rfl) ?_
                  refine lv_bipush (v := 16) hx hb dL_acts_580 (by decide) ?_
                  refine lv_ishr hx hb dL_acts_582 ?_
                  refine q_reI (show (((nI z) >>> (16 &&& 31)) : Int32) = nI (z / 65536) from sh_16 (by omega)) ?_
                  refine lv_bipush (v := 31) hx hb dL_acts_583 (by decide) ?_
                  refine lv_irem hx hb dL_acts_585 (by decide) ?_
                  refine q_reI (show ((nI (z / 65536)) - (nI (z / 65536)) / 31 * 31 : Int32) = nI (z / 65536 % 31) from pk_rem (d := 31) (by omega) (by decide) (by decide)) ?_
                  refine lv_bipush (v := 20) hx hb dL_acts_586 (by decide) ?_
                  refine lv_isub hx hb dL_acts_588 ?_
                  refine q_reI (show (((nI (z / 65536 % 31)) - 20) : Int32) = actM V z from by simp [actM, c_7, w_103_0, w_103_1, w_103_2, w_103_3, w_103_4, w_103_5, w_103_6, w_103_7, c_536, c_549]) J_589
                · skip
                  refine lv_aload_n hx hb dL_acts_552 rfl (lv_at hl 7 rfl) ?_
                  refine lv_iload_n hx hb dL_acts_553 rfl (lv_at hl 5 rfl) ?_
                  refine lv_iload hx hb dL_acts_554 (lv_at hl 3 rfl) ?_
                  refine lv_iconst (v := 3) hx hb dL_acts_556 (by decide) ?_
                  refine q_V (As := [.int (nI (actT V z)), .int (nI (actR z)), .int 3]) (rest := []) ⟨hx, hb, hml, hown, hts⟩ (c_X4_sheet l g a b V (nI (actT V z)) (nI (actR z)) 3 (by first | omega | assumption)) (cwV 3 hts gL_acts_X4_sheet rfl rfl rfl (by decide +kernel) ⟨Nat.le_of_ble_eq_true rfl, Nat.le_of_ble_eq_true rfl⟩) q_B_blind (va_recv hK hP (ci := 3) (q0 := 0) rfl rfl) (q_B_of hP hK hN) rfl hl.1 rfl (Nat.le_of_ble_eq_true rfl) dL_acts_557 (Nat.zero_le _) (Nat.zero_le _) ?_
                  refine q_reI (show (sheR V (nI (actT V z)) (nI (actR z)) 3 : Int32) = w_tr (v_now V) (actT V z) (actR z) from w_trV hn10 hT hR) ?_
                  refine lv_bipush (v := 111) hx hb dL_acts_560 (by decide) ?_
                  refine lv_icmp_ge (tgt := 579) hx hb dL_acts_562 (by decide) (fun c_562 => ?_) (fun c_562 => ?_)
                  · skip
                    refine lv_iload_n hx hb dL_acts_579 rfl (lv_at hl 8 rfl) ?_
                    refine lv_bipush (v := 16) hx hb dL_acts_580 (by decide) ?_
                    refine lv_ishr hx hb dL_acts_582 ?_
                    refine q_reI (show (((nI z) >>> (16 &&& 31)) : Int32) = nI (z / 65536) from sh_16 (by omega)) ?_
                    refine lv_bipush (v := 31) hx hb dL_acts_583 (by decide) ?_
                    refine lv_irem hx hb dL_acts_585 (by decide) ?_
                    refine q_reI (show ((nI (z / 65536)) - (nI (z / 65536)) / 31 * 31 : Int32) = nI (z / 65536 % 31) from pk_rem (d := 31) (by omega) (by decide) (by decide)) ?_
                    refine lv_bipush (v := 20) hx hb dL_acts_586 (by decide) ?_
                    refine lv_isub hx hb dL_acts_588 ?_
                    refine q_reI (show (((nI (z / 65536 % 31)) - 20) : Int32) = actM V z from by simp [actM, c_7, w_103_0, w_103_1, w_103_2, w_103_3, w_103_4, w_103_5, w_103_6, w_103_7, c_536, c_549, c_562]) J_589
                  · skip
                    refine lv_aload_n hx hb dL_acts_565 rfl (lv_at hl 7 rfl) ?_
                    refine lv_iload_n hx hb dL_acts_566 rfl (lv_at hl 5 rfl) ?_
                    refine lv_iload hx hb dL_acts_567 (lv_at hl 3 rfl) ?_
                    refine lv_iconst (v := 3) hx hb dL_acts_569 (by decide) ?_
                    refine q_V (As := [.int (nI (actT V z)), .int (nI (actR z)), .int 3]) (rest := []) ⟨hx, hb, hml, hown, hts⟩ (c_X4_sheet l g a b V (nI (actT V z)) (nI (actR z)) 3 (by first | omega | assumption)) (cwV 3 hts gL_acts_X4_sheet rfl rfl rfl (by decide +kernel) ⟨Nat.le_of_ble_eq_true rfl, Nat.le_of_ble_eq_true rfl⟩) q_B_blind (va_recv hK hP (ci := 3) (q0 := 0) rfl rfl) (q_B_of hP hK hN) rfl hl.1 rfl (Nat.le_of_ble_eq_true rfl) dL_acts_570 (Nat.zero_le _) (Nat.zero_le _) ?_
                    refine q_reI (show (sheR V (nI (actT V z)) (nI (actR z)) 3 : Int32) = w_tr (v_now V) (actT V z) (actR z) from w_trV hn10 hT hR) ?_
                    refine lv_bipush (v := 100) hx hb dL_acts_573 (by decide) ?_
                    refine lv_isub hx hb dL_acts_575 ?_
                    refine lv_goto (tgt := 589) hx hb dL_acts_576 (by decide) ?_
                    refine q_reI (show (((w_tr (v_now V) (actT V z) (actR z)) - 100) : Int32) = actM V z from by simp [actM, c_7, w_103_0, w_103_1, w_103_2, w_103_3, w_103_4, w_103_5, w_103_6, w_103_7, c_536, c_549, c_562]) J_589
            by_cases w_103_8 : (nI (z % 11)) = 8
            · skip
              have tx_103 : (nI (z % 11) : Int32).toInt = 8 := by rw [w_103_8]; decide
              refine lv_tableIn (tgt := 714) (off := 611) hx hb dL_acts_103 (by rw [tx_103]; decide) (by rw [tx_103]; decide) (by rw [tx_103]; rfl) (by decide) ?_
              have hc : z % 11 = 8 := (nI_eq (b := 8) (by omega) (by decide)).mp w_103_8
              refine lv_aload_n hx hb dL_acts_714 rfl (lv_at hl 7 rfl) ?_
              refine lv_iload_n hx hb dL_acts_715 rfl (lv_at hl 5 rfl) ?_
              refine lv_iload hx hb dL_acts_716 (lv_at hl 3 rfl) ?_
              refine lv_iconst (v := 3) hx hb dL_acts_718 (by decide) ?_
              refine q_V (As := [.int (nI (actT V z)), .int (nI (actR z)), .int 3]) (rest := []) ⟨hx, hb, hml, hown, hts⟩ (c_X4_sheet l g a b V (nI (actT V z)) (nI (actR z)) 3 (by first | omega | assumption)) (cwV 3 hts gL_acts_X4_sheet rfl rfl rfl (by decide +kernel) ⟨Nat.le_of_ble_eq_true rfl, Nat.le_of_ble_eq_true rfl⟩) q_B_blind (va_recv hK hP (ci := 3) (q0 := 0) rfl rfl) (q_B_of hP hK hN) rfl hl.1 rfl (Nat.le_of_ble_eq_true rfl) dL_acts_719 (Nat.zero_le _) (Nat.zero_le _) ?_
              refine q_reI (show (sheR V (nI (actT V z)) (nI (actR z)) 3 : Int32) = w_tr (v_now V) (actT V z) (actR z) from w_trV hn10 hT hR) ?_
              refine lv_istore (lv' := [(19, .int (w_tr (v_now V) (actT V z) (actR z))), (8, .int (bI (tldS (v_now V) (actT V z) (actR z)))), (7, .int (bI (hasS (v_now V) (actT V z) (actR z)))), (6, .int (bI (isOp (v_now V) (actR z)))), (5, .int (nI (actR z))), (4, .int (nI (actO V z))), (3, .int (nI (actT V z))), (2, .int (nI (s_n (v_now V)))), (0, .ref (b 0)), (1, .int (nI z))]) hx hb dL_acts_722 hl (by decide) rfl (fun ls hl => ?_)
              refine lv_aload_n hx hb dL_acts_724 rfl (lv_at hl 8 rfl) ?_
              refine lv_iload_n hx hb dL_acts_725 rfl (lv_at hl 6 rfl) ?_
              refine lv_iload hx hb dL_acts_726 (lv_at hl 4 rfl) ?_
              refine lv_iconst (v := 0) hx hb dL_acts_728 (by decide) ?_
              refine q_V (As := [.int (nI (actT V z)), .int (nI (actR z)), .int 0]) (rest := []) ⟨hx, hb, hml, hown, hts⟩ (c_X4_sheet l g a b V (nI (actT V z)) (nI (actR z)) 0 (by first | omega | assumption)) (cwV 3 hts gL_acts_X4_sheet rfl rfl rfl (by decide +kernel) ⟨Nat.le_of_ble_eq_true rfl, Nat.le_of_ble_eq_true rfl⟩) q_B_blind (va_recv hK hP (ci := 3) (q0 := 0) rfl rfl) (q_B_of hP hK hN) rfl hl.1 rfl (Nat.le_of_ble_eq_true rfl) dL_acts_729 (Nat.zero_le _) (Nat.zero_le _) ?_
              refine q_reI (show (sheR V (nI (actT V z)) (nI (actR z)) 0 : Int32) = w_mk (v_now V) (actT V z) (actR z) from w_mkV hn10 hT hR) ?_
              refine lv_istore (lv' := [(20, .int (w_mk (v_now V) (actT V z) (actR z))), (19, .int (w_tr (v_now V) (actT V z) (actR z))), (8, .int (bI (tldS (v_now V) (actT V z) (actR z)))), (7, .int (bI (hasS (v_now V) (actT V z) (actR z)))), (6, .int (bI (isOp (v_now V) (actR z)))), (5, .int (nI (actR z))), (4, .int (nI (actO V z))), (3, .int (nI (actT V z))), (2, .int (nI (s_n (v_now V)))), (0, .ref (b 0)), (1, .int (nI z))]) hx hb dL_acts_732 hl (by decide) rfl (fun ls hl => ?_)
              refine lv_aload_n hx hb dL_acts_734 rfl (lv_at hl 9 rfl) ?_
              refine lv_iload hx hb dL_acts_735 (lv_at hl 5 rfl) ?_
              refine lv_iconst (v := 4) hx hb dL_acts_737 (by decide) ?_
              refine q_V (As := [.int (nI (actR z)), .int 4]) (rest := []) ⟨hx, hb, hml, hown, hts⟩ (c_X4_ofRound l g a b V (nI (actR z)) 4 (by first | omega | assumption)) (cwV 2 hts gL_acts_X4_ofRound rfl rfl rfl (by decide +kernel) ⟨Nat.le_of_ble_eq_true rfl, Nat.le_of_ble_eq_true rfl⟩) q_B_blind (va_recv hK hP (ci := 3) (q0 := 0) rfl rfl) (q_B_of hP hK hN) rfl hl.1 rfl (Nat.le_of_ble_eq_true rfl) dL_acts_738 (Nat.zero_le _) (Nat.zero_le _) ?_
              refine lv_iload_n hx hb dL_acts_741 rfl (lv_at hl 7 rfl) ?_
              refine lv_ishr hx hb dL_acts_742 ?_
              refine lv_iconst (v := 1) hx hb dL_acts_743 (by decide) ?_
              refine lv_iand hx hb dL_acts_744 ?_
              refine q_reI (show ((((ofrR V (nI (actR z)) 4) >>> ((nI (actT V z)) &&& 31)) &&& 1) : Int32) = bI (lokS (v_now V) (actT V z) (actR z)) from w_lb ho hT hR) ?_
              refine lv_iconst (v := 1) hx hb dL_acts_745 (by decide) ?_
              have J_754 : W p l e { frames := 7, cells := 0, slots := 0, locals := 163 } s m args below meth c s.heap [] 0 0 (MQ below (q_QM g (q_adr a b) (q_pqW g a b (actV V z)) (some (.int (bI true)))) args s 0 0 (q_adr a b)) (F0 m 754 ls [.int (bI (lokS (v_now V) (actT V z) (actR z)))]) := by
                refine lv_istore (lv' := [(21, .int (bI (lokS (v_now V) (actT V z) (actR z)))), (20, .int (w_mk (v_now V) (actT V z) (actR z))), (19, .int (w_tr (v_now V) (actT V z) (actR z))), (8, .int (bI (tldS (v_now V) (actT V z) (actR z)))), (7, .int (bI (hasS (v_now V) (actT V z) (actR z)))), (6, .int (bI (isOp (v_now V) (actR z)))), (5, .int (nI (actR z))), (4, .int (nI (actO V z))), (3, .int (nI (actT V z))), (2, .int (nI (s_n (v_now V)))), (0, .ref (b 0)), (1, .int (nI z))]) hx hb dL_acts_754 hl (by decide) rfl (fun ls hl => ?_)
                refine lv_aload_n hx hb dL_acts_756 rfl (lv_at hl 10 rfl) ?_
                refine lv_iload_n hx hb dL_acts_757 rfl (lv_at hl 8 rfl) ?_
                refine lv_iload hx hb dL_acts_758 (lv_at hl 6 rfl) ?_
                refine q_VM (As := [.int (nI (actT V z)), .int (nI (actR z))]) (rest := []) (st2 := [.int (lokR V (nI (actT V z)) (nI (actR z)))]) ⟨hx, hb, hml, hown, hts⟩ (c_X4_look l g a b V hI (nI (actT V z)) (nI (actR z)) (by first | omega | assumption) (by first | omega | assumption) (by first | omega | assumption) (fun _ _ q1 q2 q3 => ok_mk ho q1 q2 q3)) (cwV 2 hts gL_acts_X4_look rfl rfl rfl (by decide +kernel) ⟨Nat.le_of_ble_eq_true rfl, Nat.le_of_ble_eq_true rfl⟩) q_B_blind (va_recv hK hP (ci := 3) (q0 := 0) rfl rfl) (q_B_of hP hK hN) rfl hl.1 rfl (Nat.le_of_ble_eq_true rfl) dL_acts_760 (Nat.zero_le _) (Nat.zero_le _) hS (fun _ h => h) rfl rfl rfl (fun H locs hP _ hS _ => ?_)
                have hP : va_P g.1 vwCl (q_pqW g a b (lokV V (nI (actT V z)) (nI (actR z)))) H := hP
                have hD : va_D (q_adr a b) (q_pqW g a b (lokV V (nI (actT V z)) (nI (actR z)))) := q_D hI (fun _ h => h)
                have hn2 : s_n (v_now (lokV V (nI (actT V z)) (nI (actR z)))) ≤ 10 := ok_n (iv_lok hv _ _).1
                refine lv_istore (lv' := [(22, .int (lokR V (nI (actT V z)) (nI (actR z)))), (21, .int (bI (lokS (v_now V) (actT V z) (actR z)))), (20, .int (w_mk (v_now V) (actT V z) (actR z))), (19, .int (w_tr (v_now V) (actT V z) (actR z))), (8, .int (bI (tldS (v_now V) (actT V z) (actR z)))), (7, .int (bI (hasS (v_now V) (actT V z) (actR z)))), (6, .int (bI (isOp (v_now V) (actR z)))), (5, .int (nI (actR z))), (4, .int (nI (actO V z))), (3, .int (nI (actT V z))), (2, .int (nI (s_n (v_now V)))), (0, .ref (b 0)), (1, .int (nI z))]) hx hb dL_acts_763 hl (by decide) rfl (fun ls hl => ?_)
                refine lv_iload_n hx hb dL_acts_765 rfl (lv_at hl 10 rfl) ?_
                refine lv_if_ne (tgt := 783) hx hb dL_acts_766 (by decide) (fun c_766 => ?_) (fun c_766 => ?_)
                · skip
                  refine lv_iload hx hb dL_acts_783 (lv_at hl 4 rfl) ?_
                  refine lv_if_eq (tgt := 793) hx hb dL_acts_785 (by decide) (fun c_785 => ?_) (fun c_785 => ?_)
                  · skip
                    have c_785 : (tldS (v_now V) (actT V z) (actR z)) = false := bI_eq c_785
                    refine lv_iload hx hb dL_acts_793 (lv_at hl 0 rfl) ?_
                    refine lv_bipush (v := (-5)) hx hb dL_acts_795 (by decide) ?_
                    refine lv_icmp_ne (tgt := 804) hx hb dL_acts_797 (by decide) (fun c_797 => ?_) (fun c_797 => ?_)
                    · skip
                      refine (c_797 ?_).elim; exact (lok_5 hn10 hT hR (by first | exact Or.inl c_785 | exact Or.inr c_790))
                    · skip
                      refine lv_iconst (v := 1) hx hb dL_acts_800 (by decide) ?_
                      refine lv_goto (tgt := 843) hx hb dL_acts_801 (by decide) ?_
                      exact q_mzret hx hb hr hlk dL_acts_843 hP hS (rfl) (congrArg (q_pqW g a b) ((act_8 hc).symm))
                  · skip
                    have c_785 : (tldS (v_now V) (actT V z) (actR z)) = true := bI_ne c_785
                    refine lv_iload hx hb dL_acts_788 (lv_at hl 1 rfl) ?_
                    refine lv_if_eq (tgt := 808) hx hb dL_acts_790 (by decide) (fun c_790 => ?_) (fun c_790 => ?_)
                    · skip
                      have c_790 : (lokS (v_now V) (actT V z) (actR z)) = false := bI_eq c_790
                      refine lv_iload hx hb dL_acts_808 (lv_at hl 0 rfl) ?_
                      refine lv_iload hx hb dL_acts_810 (lv_at hl 2 rfl) ?_
                      refine lv_iload hx hb dL_acts_812 (lv_at hl 3 rfl) ?_
                      refine lv_icmp_ne (tgt := 821) hx hb dL_acts_814 (by decide) (fun c_814 => ?_) (fun c_814 => ?_)
                      · skip
                        refine lv_iconst (v := 1) hx hb dL_acts_821 (by decide) ?_
                        refine lv_icmp_ne (tgt := 842) hx hb dL_acts_822 (by decide) (fun c_822 => ?_) (fun c_822 => ?_)
                        · skip
                          first | refine (c_822 ?_).elim; exact ((lok_0 ho hT hR c_785 c_790).1.trans (by rw [w_w2 ho (by omega) hR c_785 c_814]; rfl)) | refine (c_822 ?_).elim; exact ((lok_0 ho hT hR c_785 c_790).1.trans (by rw [w_w3 ho (by omega) hR c_785 c_790 c_814]; rfl))
                        · skip
                          refine lv_aload_n hx hb dL_acts_825 rfl (lv_at hl 11 rfl) ?_
                          refine lv_iload_n hx hb dL_acts_826 rfl (lv_at hl 9 rfl) ?_
                          refine lv_iload hx hb dL_acts_827 (lv_at hl 7 rfl) ?_
                          refine lv_iconst (v := 0) hx hb dL_acts_829 (by decide) ?_
                          refine q_V (As := [.int (nI (actT V z)), .int (nI (actR z)), .int 0]) (rest := []) ⟨hx, hb, hml, hown, hts⟩ (c_X4_sheet l g a b (lokV V (nI (actT V z)) (nI (actR z))) (nI (actT V z)) (nI (actR z)) 0 (by first | omega | assumption)) (cwV 3 hts gL_acts_X4_sheet rfl rfl rfl (by decide +kernel) ⟨Nat.le_of_ble_eq_true rfl, Nat.le_of_ble_eq_true rfl⟩) q_B_blind (va_recv hK hP (ci := 3) (q0 := 0) rfl rfl) (q_B_of hP hK hN) rfl hl.1 rfl (Nat.le_of_ble_eq_true rfl) dL_acts_830 (Nat.zero_le _) (Nat.zero_le _) ?_
                          refine lv_iload hx hb dL_acts_833 (lv_at hl 3 rfl) ?_
                          refine lv_icmp_ne (tgt := 842) hx hb dL_acts_835 (by decide) (fun c_835 => ?_) (fun c_835 => ?_)
                          · skip
                            refine (c_835 ?_).elim; exact (lok_0 ho hT hR c_785 c_790).2
                          · skip
                            refine lv_iconst (v := 1) hx hb dL_acts_838 (by decide) ?_
                            refine lv_goto (tgt := 843) hx hb dL_acts_839 (by decide) ?_
                            exact q_mzret hx hb hr hlk dL_acts_843 hP hS (rfl) (congrArg (q_pqW g a b) ((act_8 hc).symm))
                      · skip
                        refine lv_iconst (v := 0) hx hb dL_acts_817 (by decide) ?_
                        refine lv_goto (tgt := 822) hx hb dL_acts_818 (by decide) ?_
                        refine lv_icmp_ne (tgt := 842) hx hb dL_acts_822 (by decide) (fun c_822 => ?_) (fun c_822 => ?_)
                        · skip
                          first | refine (c_822 ?_).elim; exact ((lok_0 ho hT hR c_785 c_790).1.trans (by rw [w_w2 ho (by omega) hR c_785 c_814]; rfl)) | refine (c_822 ?_).elim; exact ((lok_0 ho hT hR c_785 c_790).1.trans (by rw [w_w3 ho (by omega) hR c_785 c_790 c_814]; rfl))
                        · skip
                          refine lv_aload_n hx hb dL_acts_825 rfl (lv_at hl 11 rfl) ?_
                          refine lv_iload_n hx hb dL_acts_826 rfl (lv_at hl 9 rfl) ?_
                          refine lv_iload hx hb dL_acts_827 (lv_at hl 7 rfl) ?_
                          refine lv_iconst (v := 0) hx hb dL_acts_829 (by decide) ?_
                          refine q_V (As := [.int (nI (actT V z)), .int (nI (actR z)), .int 0]) (rest := []) ⟨hx, hb, hml, hown, hts⟩ (c_X4_sheet l g a b (lokV V (nI (actT V z)) (nI (actR z))) (nI (actT V z)) (nI (actR z)) 0 (by first | omega | assumption)) (cwV 3 hts gL_acts_X4_sheet rfl rfl rfl (by decide +kernel) ⟨Nat.le_of_ble_eq_true rfl, Nat.le_of_ble_eq_true rfl⟩) q_B_blind (va_recv hK hP (ci := 3) (q0 := 0) rfl rfl) (q_B_of hP hK hN) rfl hl.1 rfl (Nat.le_of_ble_eq_true rfl) dL_acts_830 (Nat.zero_le _) (Nat.zero_le _) ?_
                          refine lv_iload hx hb dL_acts_833 (lv_at hl 3 rfl) ?_
                          refine lv_icmp_ne (tgt := 842) hx hb dL_acts_835 (by decide) (fun c_835 => ?_) (fun c_835 => ?_)
                          · skip
                            refine (c_835 ?_).elim; exact (lok_0 ho hT hR c_785 c_790).2
                          · skip
                            refine lv_iconst (v := 1) hx hb dL_acts_838 (by decide) ?_
                            refine lv_goto (tgt := 843) hx hb dL_acts_839 (by decide) ?_
                            exact q_mzret hx hb hr hlk dL_acts_843 hP hS (rfl) (congrArg (q_pqW g a b) ((act_8 hc).symm))
                    · skip
                      have c_790 : (lokS (v_now V) (actT V z) (actR z)) = true := bI_ne c_790
                      refine lv_iload hx hb dL_acts_793 (lv_at hl 0 rfl) ?_
                      refine lv_bipush (v := (-5)) hx hb dL_acts_795 (by decide) ?_
                      refine lv_icmp_ne (tgt := 804) hx hb dL_acts_797 (by decide) (fun c_797 => ?_) (fun c_797 => ?_)
                      · skip
                        refine (c_797 ?_).elim; exact (lok_5 hn10 hT hR (by first | exact Or.inl c_785 | exact Or.inr c_790))
                      · skip
                        refine lv_iconst (v := 1) hx hb dL_acts_800 (by decide) ?_
                        refine lv_goto (tgt := 843) hx hb dL_acts_801 (by decide) ?_
                        exact q_mzret hx hb hr hlk dL_acts_843 hP hS (rfl) (congrArg (q_pqW g a b) ((act_8 hc).symm))
                · skip
                  exact absurd c_766 c_7
              refine lv_icmp_ne (tgt := 753) hx hb dL_acts_746 (by decide) (fun c_746 => ?_) (fun c_746 => ?_)
              · skip
                have c_746 : (lokS (v_now V) (actT V z) (actR z)) = false := bI_n1 c_746
                refine lv_iconst (v := 0) hx hb dL_acts_753 (by decide) ?_
                refine q_reI (show (0 : Int32) = bI (lokS (v_now V) (actT V z) (actR z)) from by simp [bI, c_7, w_103_0, w_103_1, w_103_2, w_103_3, w_103_4, w_103_5, w_103_6, w_103_7, w_103_8, c_746]) J_754
              · skip
                have c_746 : (lokS (v_now V) (actT V z) (actR z)) = true := bI_e1 c_746
                refine lv_iconst (v := 1) hx hb dL_acts_749 (by decide) ?_
                refine lv_goto (tgt := 754) hx hb dL_acts_750 (by decide) ?_
                refine q_reI (show (1 : Int32) = bI (lokS (v_now V) (actT V z) (actR z)) from by simp [bI, c_7, w_103_0, w_103_1, w_103_2, w_103_3, w_103_4, w_103_5, w_103_6, w_103_7, w_103_8, c_746]) J_754
            by_cases w_103_9 : (nI (z % 11)) = 9
            · skip
              have tx_103 : (nI (z % 11) : Int32).toInt = 9 := by rw [w_103_9]; decide
              refine lv_tableIn (tgt := 844) (off := 741) hx hb dL_acts_103 (by rw [tx_103]; decide) (by rw [tx_103]; decide) (by rw [tx_103]; rfl) (by decide) ?_
              have hc : z % 11 = 9 := (nI_eq (b := 9) (by omega) (by decide)).mp w_103_9
              refine lv_iload_n hx hb dL_acts_844 rfl (lv_at hl 8 rfl) ?_
              refine lv_bipush (v := 8) hx hb dL_acts_845 (by decide) ?_
              refine lv_ishr hx hb dL_acts_847 ?_
              refine q_reI (show (((nI z) >>> (8 &&& 31)) : Int32) = nI (z / 256) from sh_8 (by omega)) ?_
              refine lv_sipush (v := 10000) hx hb dL_acts_848 (by decide) ?_
              refine lv_irem hx hb dL_acts_851 (by decide) ?_
              refine q_reI (show ((nI (z / 256)) - (nI (z / 256)) / 10000 * 10000 : Int32) = nI (z / 256 % 10000) from pk_rem (d := 10000) (by omega) (by decide) (by decide)) ?_
              refine lv_istore (lv' := [(23, .int (nI (z / 256 % 10000))), (8, .int (bI (tldS (v_now V) (actT V z) (actR z)))), (7, .int (bI (hasS (v_now V) (actT V z) (actR z)))), (6, .int (bI (isOp (v_now V) (actR z)))), (5, .int (nI (actR z))), (4, .int (nI (actO V z))), (3, .int (nI (actT V z))), (2, .int (nI (s_n (v_now V)))), (0, .ref (b 0)), (1, .int (nI z))]) hx hb dL_acts_852 hl (by decide) rfl (fun ls hl => ?_)
              refine lv_aload_n hx hb dL_acts_854 rfl (lv_at hl 8 rfl) ?_
              refine lv_iload_n hx hb dL_acts_855 rfl (lv_at hl 6 rfl) ?_
              refine lv_iconst (v := 5) hx hb dL_acts_856 (by decide) ?_
              refine q_V (As := [.int (nI (actT V z)), .int 5]) (rest := []) ⟨hx, hb, hml, hown, hts⟩ (c_X4_ofTeam l g a b V (nI (actT V z)) 5 (by first | omega | assumption)) (cwV 2 hts gL_acts_X4_ofTeam rfl rfl rfl (by decide +kernel) ⟨Nat.le_of_ble_eq_true rfl, Nat.le_of_ble_eq_true rfl⟩) q_B_blind (va_recv hK hP (ci := 3) (q0 := 0) rfl rfl) (q_B_of hP hK hN) rfl hl.1 rfl (Nat.le_of_ble_eq_true rfl) dL_acts_857 (Nat.zero_le _) (Nat.zero_le _) ?_
              refine q_reI (show (oftR V (nI (actT V z)) 5 : Int32) = s_gue (v_now V) (actT V z) from w_o5 hn10 hT) ?_
              refine lv_istore (lv' := [(24, .int (s_gue (v_now V) (actT V z))), (23, .int (nI (z / 256 % 10000))), (8, .int (bI (tldS (v_now V) (actT V z) (actR z)))), (7, .int (bI (hasS (v_now V) (actT V z) (actR z)))), (6, .int (bI (isOp (v_now V) (actR z)))), (5, .int (nI (actR z))), (4, .int (nI (actO V z))), (3, .int (nI (actT V z))), (2, .int (nI (s_n (v_now V)))), (0, .ref (b 0)), (1, .int (nI z))]) hx hb dL_acts_860 hl (by decide) rfl (fun ls hl => ?_)
              refine lv_aload_n hx hb dL_acts_862 rfl (lv_at hl 9 rfl) ?_
              refine lv_bipush (v := 7) hx hb dL_acts_863 (by decide) ?_
              refine q_V (As := [.int 7]) (rest := []) ⟨hx, hb, hml, hown, hts⟩ (c_X4_count l g a b V 7 (by first | omega | assumption)) (cwV 1 hts gL_acts_X4_count rfl rfl rfl (by decide +kernel) ⟨Nat.le_of_ble_eq_true rfl, Nat.le_of_ble_eq_true rfl⟩) q_B_blind (va_recv hK hP (ci := 3) (q0 := 0) rfl rfl) (q_B_of hP hK hN) rfl hl.1 rfl (Nat.le_of_ble_eq_true rfl) dL_acts_865 (Nat.zero_le _) (Nat.zero_le _) ?_
              have J_876 : W p l e { frames := 7, cells := 0, slots := 0, locals := 163 } s m args below meth c s.heap [] 0 0 (MQ below (q_QM g (q_adr a b) (q_pqW g a b (actV V z)) (some (.int (bI true)))) args s 0 0 (q_adr a b)) (F0 m 876 ls [.int (bI (!decide (s_tru (v_now V) = -6)))]) := by
                refine lv_istore (lv' := [(25, .int (bI (!decide (s_tru (v_now V) = -6)))), (24, .int (s_gue (v_now V) (actT V z))), (23, .int (nI (z / 256 % 10000))), (8, .int (bI (tldS (v_now V) (actT V z) (actR z)))), (7, .int (bI (hasS (v_now V) (actT V z) (actR z)))), (6, .int (bI (isOp (v_now V) (actR z)))), (5, .int (nI (actR z))), (4, .int (nI (actO V z))), (3, .int (nI (actT V z))), (2, .int (nI (s_n (v_now V)))), (0, .ref (b 0)), (1, .int (nI z))]) hx hb dL_acts_876 hl (by decide) rfl (fun ls hl => ?_)
                refine lv_aload_n hx hb dL_acts_878 rfl (lv_at hl 10 rfl) ?_
                refine lv_iload_n hx hb dL_acts_879 rfl (lv_at hl 8 rfl) ?_
                refine lv_iload hx hb dL_acts_880 (lv_at hl 2 rfl) ?_
                refine q_VM (As := [.int (nI (actT V z)), .int (nI (z / 256 % 10000))]) (rest := []) (st2 := [.int (gueR V (nI (actT V z)) (nI (z / 256 % 10000)))]) ⟨hx, hb, hml, hown, hts⟩ (c_X4_guess l g a b V hI (nI (actT V z)) (nI (z / 256 % 10000)) (by first | omega | assumption) (by first | omega | assumption) (by first | omega | assumption)) (cwV 2 hts gL_acts_X4_guess rfl rfl rfl (by decide +kernel) ⟨Nat.le_of_ble_eq_true rfl, Nat.le_of_ble_eq_true rfl⟩) q_B_blind (va_recv hK hP (ci := 3) (q0 := 0) rfl rfl) (q_B_of hP hK hN) rfl hl.1 rfl (Nat.le_of_ble_eq_true rfl) dL_acts_882 (Nat.zero_le _) (Nat.zero_le _) hS (fun _ h => h) rfl rfl rfl (fun H locs hP _ hS _ => ?_)
                have hP : va_P g.1 vwCl (q_pqW g a b (gueV V (nI (actT V z)) (nI (z / 256 % 10000)))) H := hP
                have hD : va_D (q_adr a b) (q_pqW g a b (gueV V (nI (actT V z)) (nI (z / 256 % 10000)))) := q_D hI (fun _ h => h)
                have hn2 : s_n (v_now (gueV V (nI (actT V z)) (nI (z / 256 % 10000)))) ≤ 10 := ok_n (iv_gue hv _ _).1
                refine lv_istore (lv' := [(26, .int (gueR V (nI (actT V z)) (nI (z / 256 % 10000)))), (25, .int (bI (!decide (s_tru (v_now V) = -6)))), (24, .int (s_gue (v_now V) (actT V z))), (23, .int (nI (z / 256 % 10000))), (8, .int (bI (tldS (v_now V) (actT V z) (actR z)))), (7, .int (bI (hasS (v_now V) (actT V z) (actR z)))), (6, .int (bI (isOp (v_now V) (actR z)))), (5, .int (nI (actR z))), (4, .int (nI (actO V z))), (3, .int (nI (actT V z))), (2, .int (nI (s_n (v_now V)))), (0, .ref (b 0)), (1, .int (nI z))]) hx hb dL_acts_885 hl (by decide) rfl (fun ls hl => ?_)
                refine lv_iload_n hx hb dL_acts_887 rfl (lv_at hl 10 rfl) ?_
                refine lv_if_ne (tgt := 905) hx hb dL_acts_888 (by decide) (fun c_888 => ?_) (fun c_888 => ?_)
                · skip
                  refine lv_iload hx hb dL_acts_905 (lv_at hl 1 rfl) ?_
                  refine lv_if_eq (tgt := 925) hx hb dL_acts_907 (by decide) (fun c_907 => ?_) (fun c_907 => ?_)
                  · skip
                    have c_907 : (!decide (s_tru (v_now V) = -6)) = false := bI_eq c_907
                    refine lv_iload hx hb dL_acts_925 (lv_at hl 0 rfl) ?_
                    refine lv_iload hx hb dL_acts_927 (lv_at hl 2 rfl) ?_
                    refine lv_icmp_ne (tgt := 947) hx hb dL_acts_929 (by decide) (fun c_929 => ?_) (fun c_929 => ?_)
                    · skip
                      refine (c_929 ?_).elim; exact (gue_0 hn10 hT (by omega) (by simpa using c_907)).1
                    · skip
                      refine lv_aload_n hx hb dL_acts_932 rfl (lv_at hl 11 rfl) ?_
                      refine lv_iload_n hx hb dL_acts_933 rfl (lv_at hl 9 rfl) ?_
                      refine lv_iconst (v := 5) hx hb dL_acts_934 (by decide) ?_
                      refine q_V (As := [.int (nI (actT V z)), .int 5]) (rest := []) ⟨hx, hb, hml, hown, hts⟩ (c_X4_ofTeam l g a b (gueV V (nI (actT V z)) (nI (z / 256 % 10000))) (nI (actT V z)) 5 (by first | omega | assumption)) (cwV 2 hts gL_acts_X4_ofTeam rfl rfl rfl (by decide +kernel) ⟨Nat.le_of_ble_eq_true rfl, Nat.le_of_ble_eq_true rfl⟩) q_B_blind (va_recv hK hP (ci := 3) (q0 := 0) rfl rfl) (q_B_of hP hK hN) rfl hl.1 rfl (Nat.le_of_ble_eq_true rfl) dL_acts_935 (Nat.zero_le _) (Nat.zero_le _) ?_
                      refine lv_iload hx hb dL_acts_938 (lv_at hl 3 rfl) ?_
                      refine lv_icmp_ne (tgt := 947) hx hb dL_acts_940 (by decide) (fun c_940 => ?_) (fun c_940 => ?_)
                      · skip
                        refine (c_940 ?_).elim; exact (gue_0 hn10 hT (by omega) (by simpa using c_907)).2
                      · skip
                        refine lv_iconst (v := 1) hx hb dL_acts_943 (by decide) ?_
                        refine lv_goto (tgt := 948) hx hb dL_acts_944 (by decide) ?_
                        exact q_mzret hx hb hr hlk dL_acts_948 hP hS (rfl) (congrArg (q_pqW g a b) ((act_9 hc).symm))
                  · skip
                    have c_907 : (!decide (s_tru (v_now V) = -6)) = true := bI_ne c_907
                    refine lv_iload hx hb dL_acts_910 (lv_at hl 0 rfl) ?_
                    refine lv_bipush (v := (-5)) hx hb dL_acts_912 (by decide) ?_
                    refine lv_icmp_ne (tgt := 921) hx hb dL_acts_914 (by decide) (fun c_914 => ?_) (fun c_914 => ?_)
                    · skip
                      refine (c_914 ?_).elim; exact (gue_5 hn10 hT (by omega) (by simpa using c_907))
                    · skip
                      refine lv_iconst (v := 1) hx hb dL_acts_917 (by decide) ?_
                      refine lv_goto (tgt := 948) hx hb dL_acts_918 (by decide) ?_
                      exact q_mzret hx hb hr hlk dL_acts_948 hP hS (rfl) (congrArg (q_pqW g a b) ((act_9 hc).symm))
                · skip
                  exact absurd c_888 c_7
              refine q_reI (show (couR V 7 : Int32) = s_tru (v_now V) from w_c7) ?_
              refine lv_if_lt (tgt := 875) hx hb dL_acts_868 (by decide) (fun c_868 => ?_) (fun c_868 => ?_)
              · skip
                have d_868 : s_tru (v_now V) = -6 := (w_tru ho).1 c_868
                refine lv_iconst (v := 0) hx hb dL_acts_875 (by decide) ?_
                refine q_reI (show (0 : Int32) = bI (!decide (s_tru (v_now V) = -6)) from by simp [bI, d_868]) J_876
              · skip
                have d_868 : ¬ s_tru (v_now V) = -6 := (w_tru ho).2 c_868
                refine lv_iconst (v := 1) hx hb dL_acts_871 (by decide) ?_
                refine lv_goto (tgt := 876) hx hb dL_acts_872 (by decide) ?_
                refine q_reI (show (1 : Int32) = bI (!decide (s_tru (v_now V) = -6)) from by simp [bI, d_868]) J_876
            have tw_103 := q_tab (n := 10) (lo := 0) (x := nI (z % 11)) (by decide) (lt_s (p := fun k => ¬ (nI (z % 11)) = nI (k + 0)) (lt_s (p := fun k => ¬ (nI (z % 11)) = nI (k + 0)) (lt_s (p := fun k => ¬ (nI (z % 11)) = nI (k + 0)) (lt_s (p := fun k => ¬ (nI (z % 11)) = nI (k + 0)) (lt_s (p := fun k => ¬ (nI (z % 11)) = nI (k + 0)) (lt_s (p := fun k => ¬ (nI (z % 11)) = nI (k + 0)) (lt_s (p := fun k => ¬ (nI (z % 11)) = nI (k + 0)) (lt_s (p := fun k => ¬ (nI (z % 11)) = nI (k + 0)) (lt_s (p := fun k => ¬ (nI (z % 11)) = nI (k + 0)) (lt_s (p := fun k => ¬ (nI (z % 11)) = nI (k + 0)) (lt_0) w_103_0) w_103_1) w_103_2) w_103_3) w_103_4) w_103_5) w_103_6) w_103_7) w_103_8) w_103_9)
            refine lv_tableOut (tgt := 949) hx hb dL_acts_103 (by omega) (by decide) ?_
            have n_0 : ¬ z % 11 = 0 := fun q => w_103_0 (by rw [q]; rfl)
            have n_1 : ¬ z % 11 = 1 := fun q => w_103_1 (by rw [q]; rfl)
            have n_2 : ¬ z % 11 = 2 := fun q => w_103_2 (by rw [q]; rfl)
            have n_3 : ¬ z % 11 = 3 := fun q => w_103_3 (by rw [q]; rfl)
            have n_4 : ¬ z % 11 = 4 := fun q => w_103_4 (by rw [q]; rfl)
            have n_5 : ¬ z % 11 = 5 := fun q => w_103_5 (by rw [q]; rfl)
            have n_6 : ¬ z % 11 = 6 := fun q => w_103_6 (by rw [q]; rfl)
            have n_7 : ¬ z % 11 = 7 := fun q => w_103_7 (by rw [q]; rfl)
            have n_8 : ¬ z % 11 = 8 := fun q => w_103_8 (by rw [q]; rfl)
            have n_9 : ¬ z % 11 = 9 := fun q => w_103_9 (by rw [q]; rfl)
            have hc : z % 11 = 10 := by omega
            refine lv_iload_n hx hb dL_acts_949 rfl (lv_at hl 8 rfl) ?_
            refine lv_iconst (v := 4) hx hb dL_acts_950 (by decide) ?_
            refine lv_ishr hx hb dL_acts_951 ?_
            refine q_reI (show (((nI z) >>> (4 &&& 31)) : Int32) = nI (z / 16) from sh_4 (by omega)) ?_
            refine lv_iconst (v := 4) hx hb dL_acts_952 (by decide) ?_
            refine lv_irem hx hb dL_acts_953 (by decide) ?_
            refine q_reI (show ((nI (z / 16)) - (nI (z / 16)) / 4 * 4 : Int32) = nI (z / 16 % 4) from pk_rem (d := 4) (by omega) (by decide) (by decide)) ?_
            refine lv_istore (lv' := [(27, .int (nI (z / 16 % 4))), (8, .int (bI (tldS (v_now V) (actT V z) (actR z)))), (7, .int (bI (hasS (v_now V) (actT V z) (actR z)))), (6, .int (bI (isOp (v_now V) (actR z)))), (5, .int (nI (actR z))), (4, .int (nI (actO V z))), (3, .int (nI (actT V z))), (2, .int (nI (s_n (v_now V)))), (0, .ref (b 0)), (1, .int (nI z))]) hx hb dL_acts_954 hl (by decide) rfl (fun ls hl => ?_)
            refine lv_iload hx hb dL_acts_956 (lv_at hl 0 rfl) ?_
            have J_1011 : W p l e { frames := 7, cells := 0, slots := 0, locals := 163 } s m args below meth c s.heap [] 0 0 (MQ below (q_QM g (q_adr a b) (q_pqW g a b (actV V z)) (some (.int (bI true)))) args s 0 0 (q_adr a b)) (F0 m 1011 ls [.int (nI (actW z))]) := by
              refine lv_istore (lv' := [(28, .int (nI (actW z))), (27, .int (nI (z / 16 % 4))), (8, .int (bI (tldS (v_now V) (actT V z) (actR z)))), (7, .int (bI (hasS (v_now V) (actT V z) (actR z)))), (6, .int (bI (isOp (v_now V) (actR z)))), (5, .int (nI (actR z))), (4, .int (nI (actO V z))), (3, .int (nI (actT V z))), (2, .int (nI (s_n (v_now V)))), (0, .ref (b 0)), (1, .int (nI z))]) hx hb dL_acts_1011 hl (by decide) rfl (fun ls hl => ?_)
              refine lv_aload_n hx hb dL_acts_1013 rfl (lv_at hl 9 rfl) ?_
              refine lv_bipush (v := 9) hx hb dL_acts_1014 (by decide) ?_
              refine lv_iload hx hb dL_acts_1016 (lv_at hl 1 rfl) ?_
              refine lv_iadd hx hb dL_acts_1018 ?_
              refine q_V (As := [.int (9 + (nI (z / 16 % 4)))]) (rest := []) ⟨hx, hb, hml, hown, hts⟩ (c_X4_count l g a b V (9 + (nI (z / 16 % 4))) (by first | omega | assumption)) (cwV 1 hts gL_acts_X4_count rfl rfl rfl (by decide +kernel) ⟨Nat.le_of_ble_eq_true rfl, Nat.le_of_ble_eq_true rfl⟩) q_B_blind (va_recv hK hP (ci := 3) (q0 := 0) rfl rfl) (q_B_of hP hK hN) rfl hl.1 rfl (Nat.le_of_ble_eq_true rfl) dL_acts_1019 (Nat.zero_le _) (Nat.zero_le _) ?_
              refine q_reI (show (couR V (9 + (nI (z / 16 % 4))) : Int32) = s_set (v_now V) (z / 16 % 4) from set_c (by omega)) ?_
              refine lv_istore (lv' := [(29, .int (s_set (v_now V) (z / 16 % 4))), (28, .int (nI (actW z))), (27, .int (nI (z / 16 % 4))), (8, .int (bI (tldS (v_now V) (actT V z) (actR z)))), (7, .int (bI (hasS (v_now V) (actT V z) (actR z)))), (6, .int (bI (isOp (v_now V) (actR z)))), (5, .int (nI (actR z))), (4, .int (nI (actO V z))), (3, .int (nI (actT V z))), (2, .int (nI (s_n (v_now V)))), (0, .ref (b 0)), (1, .int (nI z))]) hx hb dL_acts_1022 hl (by decide) rfl (fun ls hl => ?_)
              refine lv_aload_n hx hb dL_acts_1024 rfl (lv_at hl 10 rfl) ?_
              refine lv_iload hx hb dL_acts_1025 (lv_at hl 2 rfl) ?_
              refine lv_iload hx hb dL_acts_1027 (lv_at hl 1 rfl) ?_
              refine q_VM (As := [.int (nI (z / 16 % 4)), .int (nI (actW z))]) (rest := []) (st2 := [.int (setR V (nI (z / 16 % 4)) (nI (actW z)))]) ⟨hx, hb, hml, hown, hts⟩ (c_X4_set l g a b V hI (nI (z / 16 % 4)) (nI (actW z)) (by first | omega | assumption) (by first | omega | assumption)) (cwV 2 hts gL_acts_X4_set rfl rfl rfl (by decide +kernel) ⟨Nat.le_of_ble_eq_true rfl, Nat.le_of_ble_eq_true rfl⟩) (fun a1 U f mk h => ⟨q_B_blind a1 U f mk h.1, q_ST_blind a1 U f mk h.2⟩) (va_recv hK hP (ci := 3) (q0 := 0) rfl rfl) (fun U hU hW => ⟨q_B_of hP hK hN U hU hW, q_ST_at hST hS (fun _ h => h) U hU hW⟩) rfl hl.1 rfl (Nat.le_of_ble_eq_true rfl) dL_acts_1029 (Nat.zero_le _) (Nat.zero_le _) hS (fun _ h => h) rfl rfl rfl (fun H locs hP _ hS _ => ?_)
              have hP : va_P g.1 vwCl (q_pqW g a b (setV V (nI (z / 16 % 4)) (nI (actW z)))) H := hP
              have hD : va_D (q_adr a b) (q_pqW g a b (setV V (nI (z / 16 % 4)) (nI (actW z)))) := q_D hI (fun _ h => h)
              have hv2 := iv_set hv (nI (z / 16 % 4)) (nI (actW z))
              obtain ⟨ho2, hpx2, hpl2, hh2, hnx2⟩ := id hv2
              have hn2 := ok_n ho2
              refine q_reI (show (setR V (nI (z / 16 % 4)) (nI (actW z)) : Int32) = s_set (v_now V) (z / 16 % 4) from set_R) ?_
              refine lv_iload hx hb dL_acts_1032 (lv_at hl 0 rfl) ?_
              refine lv_icmp_ne (tgt := 1089) hx hb dL_acts_1034 (by decide) (fun c_1034 => ?_) (fun c_1034 => ?_)
              · skip
                exact absurd rfl c_1034
              · skip
                refine lv_aload_n hx hb dL_acts_1037 rfl (lv_at hl 10 rfl) ?_
                refine lv_bipush (v := 9) hx hb dL_acts_1038 (by decide) ?_
                refine lv_iload hx hb dL_acts_1040 (lv_at hl 2 rfl) ?_
                refine lv_iadd hx hb dL_acts_1042 ?_
                refine q_V (As := [.int (9 + (nI (z / 16 % 4)))]) (rest := []) ⟨hx, hb, hml, hown, hts⟩ (c_X4_count l g a b (setV V (nI (z / 16 % 4)) (nI (actW z))) (9 + (nI (z / 16 % 4))) (by first | omega | assumption)) (cwV 1 hts gL_acts_X4_count rfl rfl rfl (by decide +kernel) ⟨Nat.le_of_ble_eq_true rfl, Nat.le_of_ble_eq_true rfl⟩) q_B_blind (va_recv hK hP (ci := 3) (q0 := 0) rfl rfl) (q_B_of hP hK hN) rfl hl.1 rfl (Nat.le_of_ble_eq_true rfl) dL_acts_1043 (Nat.zero_le _) (Nat.zero_le _) ?_
                refine q_reI (show (couR (setV V (nI (z / 16 % 4)) (nI (actW z))) (9 + (nI (z / 16 % 4))) : Int32) = nI (actW z) from set_n) ?_
                refine lv_iload hx hb dL_acts_1046 (lv_at hl 1 rfl) ?_
                refine lv_icmp_ne (tgt := 1089) hx hb dL_acts_1048 (by decide) (fun c_1048 => ?_) (fun c_1048 => ?_)
                · skip
                  exact absurd rfl c_1048
                · skip
                  refine lv_iload_n hx hb dL_acts_1051 rfl (lv_at hl 11 rfl) ?_
                  refine lv_bipush (v := 18) hx hb dL_acts_1052 (by decide) ?_
                  refine lv_ishr hx hb dL_acts_1054 ?_
                  refine q_reI (show (((nI z) >>> (18 &&& 31)) : Int32) = nI (z / 262144) from sh_18 (by omega)) ?_
                  refine lv_bipush (v := 16) hx hb dL_acts_1055 (by decide) ?_
                  refine lv_irem hx hb dL_acts_1057 (by decide) ?_
                  refine q_reI (show ((nI (z / 262144)) - (nI (z / 262144)) / 16 * 16 : Int32) = nI (z / 262144 % 16) from pk_rem (d := 16) (by omega) (by decide) (by decide)) ?_
                  refine lv_if_gt (tgt := 1085) hx hb dL_acts_1058 (by decide) (fun c_1058 => ?_) (fun c_1058 => ?_)
                  · skip
                    have d_1058 : 0 < z / 262144 % 16 := (nI_ltI (a := 0) (by decide) (by omega)).mp c_1058
                    refine lv_iconst (v := 1) hx hb dL_acts_1085 (by decide) ?_
                    refine lv_goto (tgt := 1090) hx hb dL_acts_1086 (by decide) ?_
                    exact q_mzret hx hb hr hlk dL_acts_1090 hP hS (rfl) (congrArg (q_pqW g a b) (by first | exact (act_10a hc d_1058).symm | exact (act_10b hc d_1058 c_1067).symm | exact (act_10c hc d_1058 c_1067).symm))
                  · skip
                    have d_1058 : ¬ 0 < z / 262144 % 16 := fun q => c_1058 (nI_lt (a := 0) q (by omega))
                    refine lv_aload_n hx hb dL_acts_1061 rfl (lv_at hl 10 rfl) ?_
                    refine lv_bipush (v := 7) hx hb dL_acts_1062 (by decide) ?_
                    refine q_V (As := [.int 7]) (rest := []) ⟨hx, hb, hml, hown, hts⟩ (c_X4_count l g a b (setV V (nI (z / 16 % 4)) (nI (actW z))) 7 (by first | omega | assumption)) (cwV 1 hts gL_acts_X4_count rfl rfl rfl (by decide +kernel) ⟨Nat.le_of_ble_eq_true rfl, Nat.le_of_ble_eq_true rfl⟩) q_B_blind (va_recv hK hP (ci := 3) (q0 := 0) rfl rfl) (q_B_of hP hK hN) rfl hl.1 rfl (Nat.le_of_ble_eq_true rfl) dL_acts_1064 (Nat.zero_le _) (Nat.zero_le _) ?_
                    refine q_reI (show (couR (setV V (nI (z / 16 % 4)) (nI (actW z))) 7 : Int32) = s_tru (v_now (setV V (nI (z / 16 % 4)) (nI (actW z)))) from w_c7) ?_
                    refine lv_if_ge (tgt := 1085) hx hb dL_acts_1067 (by decide) (fun c_1067 => ?_) (fun c_1067 => ?_)
                    · skip
                      refine lv_iconst (v := 1) hx hb dL_acts_1085 (by decide) ?_
                      refine lv_goto (tgt := 1090) hx hb dL_acts_1086 (by decide) ?_
                      exact q_mzret hx hb hr hlk dL_acts_1090 hP hS (rfl) (congrArg (q_pqW g a b) (by first | exact (act_10a hc d_1058).symm | exact (act_10b hc d_1058 c_1067).symm | exact (act_10c hc d_1058 c_1067).symm))
                    · skip
                      refine lv_aload_n hx hb dL_acts_1070 rfl (lv_at hl 10 rfl) ?_
                      refine lv_iload_n hx hb dL_acts_1071 rfl (lv_at hl 11 rfl) ?_
                      refine lv_bipush (v := 8) hx hb dL_acts_1072 (by decide) ?_
                      refine lv_ishr hx hb dL_acts_1074 ?_
                      refine q_reI (show (((nI z) >>> (8 &&& 31)) : Int32) = nI (z / 256) from sh_8 (by omega)) ?_
                      refine lv_sipush (v := 10000) hx hb dL_acts_1075 (by decide) ?_
                      refine lv_irem hx hb dL_acts_1078 (by decide) ?_
                      refine q_reI (show ((nI (z / 256)) - (nI (z / 256)) / 10000 * 10000 : Int32) = nI (z / 256 % 10000) from pk_rem (d := 10000) (by omega) (by decide) (by decide)) ?_
                      refine q_VM (As := [.int (nI (z / 256 % 10000))]) (rest := []) (st2 := [.int (truR (setV V (nI (z / 16 % 4)) (nI (actW z))) (nI (z / 256 % 10000)))]) ⟨hx, hb, hml, hown, hts⟩ (c_X4_truth l g a b (setV V (nI (z / 16 % 4)) (nI (actW z))) hI (nI (z / 256 % 10000)) (by first | omega | assumption) (by first | omega | assumption) (by first | omega | assumption)) (cwV 1 hts gL_acts_X4_truth rfl rfl rfl (by decide +kernel) ⟨Nat.le_of_ble_eq_true rfl, Nat.le_of_ble_eq_true rfl⟩) q_B_blind (va_recv hK hP (ci := 3) (q0 := 0) rfl rfl) (q_B_of hP hK hN) rfl hl.1 rfl (Nat.le_of_ble_eq_true rfl) dL_acts_1079 (Nat.zero_le _) (Nat.zero_le _) hS (fun _ h => h) rfl rfl rfl (fun H locs hP _ hS _ => ?_)
                      have hP : va_P g.1 vwCl (q_pqW g a b (truV (setV V (nI (z / 16 % 4)) (nI (actW z))) (nI (z / 256 % 10000)))) H := hP
                      have hD : va_D (q_adr a b) (q_pqW g a b (truV (setV V (nI (z / 16 % 4)) (nI (actW z))) (nI (z / 256 % 10000)))) := q_D hI (fun _ h => h)
                      refine lv_if_lt (tgt := 1089) hx hb dL_acts_1082 (by decide) (fun c_1082 => ?_) (fun c_1082 => ?_)
                      · skip
                        exact absurd c_1082 (tru_0 ho2 (by omega) c_1067)
                      · skip
                        refine lv_iconst (v := 1) hx hb dL_acts_1085 (by decide) ?_
                        refine lv_goto (tgt := 1090) hx hb dL_acts_1086 (by decide) ?_
                        exact q_mzret hx hb hr hlk dL_acts_1090 hP hS (rfl) (congrArg (q_pqW g a b) (by first | exact (act_10a hc d_1058).symm | exact (act_10b hc d_1058 c_1067).symm | exact (act_10c hc d_1058 c_1067).symm))
            refine lv_if_ne (tgt := 973) hx hb dL_acts_958 (by decide) (fun c_958 => ?_) (fun c_958 => ?_)
            · skip
              refine lv_iload hx hb dL_acts_973 (lv_at hl 0 rfl) ?_
              refine lv_iconst (v := 1) hx hb dL_acts_975 (by decide) ?_
              refine lv_icmp_ne (tgt := 989) hx hb dL_acts_976 (by decide) (fun c_976 => ?_) (fun c_976 => ?_)
              · skip
                refine lv_iload hx hb dL_acts_989 (lv_at hl 0 rfl) ?_
                refine lv_iconst (v := 2) hx hb dL_acts_991 (by decide) ?_
                refine lv_icmp_ne (tgt := 1004) hx hb dL_acts_992 (by decide) (fun c_992 => ?_) (fun c_992 => ?_)
                · skip
                  refine lv_iload_n hx hb dL_acts_1004 rfl (lv_at hl 9 rfl) ?_
                  refine lv_bipush (v := 8) hx hb dL_acts_1005 (by decide) ?_
                  refine lv_ishr hx hb dL_acts_1007 ?_
                  refine q_reI (show (((nI z) >>> (8 &&& 31)) : Int32) = nI (z / 256) from sh_8 (by omega)) ?_
                  refine lv_bipush (v := 10) hx hb dL_acts_1008 (by decide) ?_
                  refine lv_irem hx hb dL_acts_1010 (by decide) ?_
                  refine q_reI (show ((nI (z / 256)) - (nI (z / 256)) / 10 * 10 : Int32) = nI (z / 256 % 10) from pk_rem (d := 10) (by omega) (by decide) (by decide)) ?_
                  refine q_reI (show (nI (z / 256 % 10) : Int32) = nI (actW z) from by first | exact aw_0 c_958 | exact aw_1 c_976 | exact aw_2 c_992 | exact aw_3 c_958 c_976 c_992) J_1011
                · skip
                  refine lv_iload_n hx hb dL_acts_995 rfl (lv_at hl 9 rfl) ?_
                  refine lv_bipush (v := 8) hx hb dL_acts_996 (by decide) ?_
                  refine lv_ishr hx hb dL_acts_998 ?_
                  refine q_reI (show (((nI z) >>> (8 &&& 31)) : Int32) = nI (z / 256) from sh_8 (by omega)) ?_
                  refine lv_iconst (v := 3) hx hb dL_acts_999 (by decide) ?_
                  refine lv_irem hx hb dL_acts_1000 (by decide) ?_
                  refine q_reI (show ((nI (z / 256)) - (nI (z / 256)) / 3 * 3 : Int32) = nI (z / 256 % 3) from pk_rem (d := 3) (by omega) (by decide) (by decide)) ?_
                  refine lv_goto (tgt := 1011) hx hb dL_acts_1001 (by decide) ?_
                  refine q_reI (show (nI (z / 256 % 3) : Int32) = nI (actW z) from by first | exact aw_0 c_958 | exact aw_1 c_976 | exact aw_2 c_992 | exact aw_3 c_958 c_976 c_992) J_1011
              · skip
                refine lv_iload_n hx hb dL_acts_979 rfl (lv_at hl 9 rfl) ?_
                refine lv_bipush (v := 8) hx hb dL_acts_980 (by decide) ?_
                refine lv_ishr hx hb dL_acts_982 ?_
                refine q_reI (show (((nI z) >>> (8 &&& 31)) : Int32) = nI (z / 256) from sh_8 (by omega)) ?_
                refine lv_bipush (v := 51) hx hb dL_acts_983 (by decide) ?_
                refine lv_irem hx hb dL_acts_985 (by decide) ?_
                refine q_reI (show ((nI (z / 256)) - (nI (z / 256)) / 51 * 51 : Int32) = nI (z / 256 % 51) from pk_rem (d := 51) (by omega) (by decide) (by decide)) ?_
                refine lv_goto (tgt := 1011) hx hb dL_acts_986 (by decide) ?_
                refine q_reI (show (nI (z / 256 % 51) : Int32) = nI (actW z) from by first | exact aw_0 c_958 | exact aw_1 c_976 | exact aw_2 c_992 | exact aw_3 c_958 c_976 c_992) J_1011
            · skip
              refine lv_iconst (v := 1) hx hb dL_acts_961 (by decide) ?_
              refine lv_iload_n hx hb dL_acts_962 rfl (lv_at hl 9 rfl) ?_
              refine lv_bipush (v := 8) hx hb dL_acts_963 (by decide) ?_
              refine lv_ishr hx hb dL_acts_965 ?_
              refine q_reI (show (((nI z) >>> (8 &&& 31)) : Int32) = nI (z / 256) from sh_8 (by omega)) ?_
              refine lv_bipush (v := 100) hx hb dL_acts_966 (by decide) ?_
              refine lv_irem hx hb dL_acts_968 (by decide) ?_
              refine q_reI (show ((nI (z / 256)) - (nI (z / 256)) / 100 * 100 : Int32) = nI (z / 256 % 100) from pk_rem (d := 100) (by omega) (by decide) (by decide)) ?_
              refine lv_iadd hx hb dL_acts_969 ?_
              refine lv_goto (tgt := 1011) hx hb dL_acts_970 (by decide) ?_
              refine q_reI (show ((1 + (nI (z / 256 % 100))) : Int32) = nI (actW z) from by first | exact aw_0 c_958 | exact aw_1 c_976 | exact aw_2 c_992 | exact aw_3 c_958 c_976 c_992) J_1011
          refine q_reI (show (sheR V (nI (actT V z)) (nI (actR z)) 0 : Int32) = w_mk (v_now V) (actT V z) (actR z) from w_mkV hn10 hT hR) ?_
          refine lv_if_lt (tgt := 96) hx hb dL_acts_89 (by decide) (fun c_89 => ?_) (fun c_89 => ?_)
          · skip
            refine lv_iconst (v := 0) hx hb dL_acts_96 (by decide) ?_
            refine q_reI (show (0 : Int32) = bI (tldS (v_now V) (actT V z) (actR z)) from by first | (rw [(w_mk1 ho (t := actT V z) (r := actR z) (by omega) hR).1.mp c_89]; rfl) | (rw [(w_mk1 ho (t := actT V z) (r := actR z) (by omega) hR).2.mp (Int32.not_lt.mp c_89)]; rfl)) J_97
          · skip
            refine lv_iconst (v := 1) hx hb dL_acts_92 (by decide) ?_
            refine lv_goto (tgt := 97) hx hb dL_acts_93 (by decide) ?_
            refine q_reI (show (1 : Int32) = bI (tldS (v_now V) (actT V z) (actR z)) from by first | (rw [(w_mk1 ho (t := actT V z) (r := actR z) (by omega) hR).1.mp c_89]; rfl) | (rw [(w_mk1 ho (t := actT V z) (r := actR z) (by omega) hR).2.mp (Int32.not_lt.mp c_89)]; rfl)) J_97
        refine q_reI (show (sheR V (nI (actT V z)) (nI (actR z)) 4 : Int32) = w_an (v_now V) (actT V z) (actR z) from w_anV hn10 hT hR) ?_
        refine lv_if_lt (tgt := 78) hx hb dL_acts_71 (by decide) (fun c_71 => ?_) (fun c_71 => ?_)
        · skip
          refine lv_iconst (v := 0) hx hb dL_acts_78 (by decide) ?_
          refine q_reI (show (0 : Int32) = bI (hasS (v_now V) (actT V z) (actR z)) from by first | (rw [w_an0' c_71]; rfl) | (rw [w_an1' c_71]; rfl)) J_79
        · skip
          refine lv_iconst (v := 1) hx hb dL_acts_74 (by decide) ?_
          refine lv_goto (tgt := 79) hx hb dL_acts_75 (by decide) ?_
          refine q_reI (show (1 : Int32) = bI (hasS (v_now V) (actT V z) (actR z)) from by first | (rw [w_an0' c_71]; rfl) | (rw [w_an1' c_71]; rfl)) J_79
      refine lv_icmp_ne (tgt := 60) hx hb dL_acts_53 (by decide) (fun c_53 => ?_) (fun c_53 => ?_)
      · skip
        have c_53 : (isOp (v_now V) (actR z)) = false := bI_n1 c_53
        refine lv_iconst (v := 0) hx hb dL_acts_60 (by decide) ?_
        refine q_reI (show (0 : Int32) = bI (isOp (v_now V) (actR z)) from by simp [bI, c_7, c_53]) J_61
      · skip
        have c_53 : (isOp (v_now V) (actR z)) = true := bI_e1 c_53
        refine lv_iconst (v := 1) hx hb dL_acts_56 (by decide) ?_
        refine lv_goto (tgt := 61) hx hb dL_acts_57 (by decide) ?_
        refine q_reI (show (1 : Int32) = bI (isOp (v_now V) (actR z)) from by simp [bI, c_7, c_53]) J_61
    · skip
      exact absurd c_21 c_7
  · skip
    exact absurd c_7 (nI_ne0 (by omega) (by omega))
