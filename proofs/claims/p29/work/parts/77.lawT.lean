/-! the law tells ten characters -/

set_option maxHeartbeats 2000000 in
set_option maxRecDepth 100000 in
theorem c_L_tells (l : Launch) (g : q_G) (a : Nat → Nat → Nat) (b : Nat → Nat) (V : q_CV) (hI : q_inj a b) (z : Nat) (key : Bool) (h1_ : z < 2 ^ 31) (h2_ : v_pl V ≤ 80) : Met l yL_tells wsL_tells { frames := 4, cells := 0, slots := 0, locals := 81 } (va_Pc [.ref (b 0), .int (nI z), .int (bI key)] (q_B g (q_pqW g a b V))) (q_QM g (q_adr a b) (q_pqW g a b (telV V z key 10)) (some (.int (bI true)))) 0 0 (q_adr a b) := by
  refine q_mm (cc := cL_tells) (maxL := 6) (ret := (some .boolean)) (by decide) rfl (Nat.le_of_ble_eq_true rfl) ?_
  intro p e s m args below meth c ls hx hb hml hown hts hr hlk hnm hB hag hl
  obtain ⟨hP, hK, hN⟩ := hB
  have hS : va_S (q_adr a b) s.heap s.heap [] := va_S.rf
  have hP : va_P g.1 vwCl (q_pqW g a b V) s.heap := hP
  have hD : va_D (q_adr a b) (q_pqW g a b V) := q_D hI (fun _ h => h)
  have hl : lv_has ls 6 [(0, .ref (b 0)), (1, .int (nI z)), (2, .int (bI key))] := hl
  refine lv_aload_n hx hb dL_tells_0 rfl (lv_at hl 0 rfl) ?_
  refine q_VM (As := []) (rest := []) (st2 := [.int (nI (v_pl V))]) ⟨hx, hb, hml, hown, hts⟩ (c_X4_wipe l g a b V hI  ) (cwV 0 hts gL_tells_X4_wipe rfl rfl rfl (by decide +kernel) ⟨Nat.le_of_ble_eq_true rfl, Nat.le_of_ble_eq_true rfl⟩) q_B_blind (va_recv hK hP (ci := 3) (q0 := 0) rfl rfl) (q_B_of hP hK hN) rfl hl.1 rfl (Nat.le_of_ble_eq_true rfl) dL_tells_1 (Nat.zero_le _) (Nat.zero_le _) hS (fun _ h => h) rfl rfl rfl (fun H locs hP _ hS _ => ?_)
  have hP : va_P g.1 vwCl (q_pqW g a b (w_pl V 0)) H := hP
  have hD : va_D (q_adr a b) (q_pqW g a b (w_pl V 0)) := q_D hI (fun _ h => h)
  refine lv_if_lt (tgt := 11) hx hb dL_tells_4 (by decide) (fun c_4 => ?_) (fun c_4 => ?_)
  · skip
    exact absurd c_4 (nI_pos (by omega))
  · skip
    refine lv_iconst (v := 1) hx hb dL_tells_7 (by decide) ?_
    refine lv_goto (tgt := 12) hx hb dL_tells_8 (by decide) ?_
    refine lv_istore_n (lv' := [(3, .int 1), (0, .ref (b 0)), (1, .int (nI z)), (2, .int (bI key))]) hx hb dL_tells_12 rfl hl (by decide) rfl (fun ls hl => ?_)
    refine lv_iconst (v := 0) hx hb dL_tells_13 (by decide) ?_
    refine lv_istore (lv' := [(4, .int 0), (3, .int 1), (0, .ref (b 0)), (1, .int (nI z)), (2, .int (bI key))]) hx hb dL_tells_14 hl (by decide) rfl (fun ls hl => ?_)
    have L_16 : ∀ (fu i16 : Nat) (H : Heap) (locs : List Loc), va_P g.1 vwCl (q_pqW g a b (telV V z key i16)) H → va_S (q_adr a b) s.heap H locs → i16 ≤ 10 → 10 < i16 + fu → ∀ ls : Array Slot, lv_has ls 6 [(4, .int (nI i16)), (3, .int 1), (0, .ref (b 0)), (1, .int (nI z)), (2, .int (bI key))] → W p l e { frames := 4, cells := 0, slots := 0, locals := 81 } s m args below meth c H locs 0 0 (MQ below (q_QM g (q_adr a b) (q_pqW g a b (telV V z key 10)) (some (.int (bI true)))) args s 0 0 (q_adr a b)) (F0 m 16 ls []) := by
      intro fu
      induction fu with
      | zero => intro i16 H locs hP hS hi_i16 hn_i16; exact absurd hn_i16 (by omega)
      | succ fu ih_i16 =>
        intro i16 H locs hP hS hi_i16 hn_i16 ls hl
        have hD : va_D (q_adr a b) (q_pqW g a b (telV V z key i16)) := q_D hI (fun _ h => h)
        refine lv_iload hx hb dL_tells_16 (lv_at hl 0 rfl) ?_
        refine lv_bipush (v := 10) hx hb dL_tells_18 (by decide) ?_
        refine lv_icmp_ge (tgt := 92) hx hb dL_tells_20 (by decide) (fun c_20 => ?_) (fun c_20 => ?_)
        · skip
          have e_20 : i16 = 10 := q_ge_T (by omega) hi_i16 c_20
          subst e_20
          refine lv_iload_n hx hb dL_tells_92 rfl (lv_at hl 1 rfl) ?_
          refine lv_if_eq (tgt := 109) hx hb dL_tells_93 (by decide) (fun c_93 => ?_) (fun c_93 => ?_)
          · skip
            exact absurd c_93 (by decide)
          · skip
            refine lv_aload_n hx hb dL_tells_96 rfl (lv_at hl 2 rfl) ?_
            refine q_V (As := []) (rest := []) ⟨hx, hb, hml, hown, hts⟩ (c_X4_fault l g a b (telV V z key 10)  (by have := tel_pl V z key (k := 10) (by omega); omega)) (cwV 0 hts gL_tells_X4_fault rfl rfl rfl (by decide +kernel) ⟨Nat.le_of_ble_eq_true rfl, Nat.le_of_ble_eq_true rfl⟩) q_B_blind (va_recv hK hP (ci := 3) (q0 := 0) rfl rfl) (q_B_of hP hK hN) rfl hl.1 rfl (Nat.le_of_ble_eq_true rfl) dL_tells_97 (Nat.zero_le _) (Nat.zero_le _) ?_
            refine lv_bipush (v := (-6)) hx hb dL_tells_100 (by decide) ?_
            refine lv_icmp_ne (tgt := 109) hx hb dL_tells_102 (by decide) (fun c_102 => ?_) (fun c_102 => ?_)
            · skip
              refine (c_102 ?_).elim; exact (tel_fau V z key)
            · skip
              refine lv_iconst (v := 1) hx hb dL_tells_105 (by decide) ?_
              refine lv_goto (tgt := 110) hx hb dL_tells_106 (by decide) ?_
              exact q_mzret hx hb hr hlk dL_tells_110 hP hS (rfl) (rfl)
        · skip
          have lt_i16 : i16 < 10 := q_ge_F (by omega) hi_i16 c_20
          refine lv_iload_n hx hb dL_tells_23 rfl (lv_at hl 1 rfl) ?_
          refine lv_if_eq (tgt := 92) hx hb dL_tells_24 (by decide) (fun c_24 => ?_) (fun c_24 => ?_)
          · skip
            exact absurd c_24 (by decide)
          · skip
            refine lv_iload_n hx hb dL_tells_27 rfl (lv_at hl 3 rfl) ?_
            refine lv_iconst (v := 2) hx hb dL_tells_28 (by decide) ?_
            refine lv_iload hx hb dL_tells_29 (lv_at hl 0 rfl) ?_
            refine lv_imul hx hb dL_tells_31 ?_
            refine lv_ishr hx hb dL_tells_32 ?_
            refine q_reI (show (((nI z) >>> ((2 * (nI i16)) &&& 31)) : Int32) = nI (z / 2 ^ (2 * i16)) from tel_shr h1_ lt_i16) ?_
            refine lv_iconst (v := 4) hx hb dL_tells_33 (by decide) ?_
            refine lv_irem hx hb dL_tells_34 (by decide) ?_
            refine q_reI (show (((nI (z / 2 ^ (2 * i16))) - (nI (z / 2 ^ (2 * i16))) / 4 * 4) : Int32) = nI (z / 2 ^ (2 * i16) % 4) from pk_rem (d := 4) (Nat.lt_of_le_of_lt (Nat.div_le_self _ _) h1_) (by decide) (by decide)) ?_
            refine lv_istore (lv' := [(5, .int (nI (z / 2 ^ (2 * i16) % 4))), (4, .int (nI i16)), (3, .int 1), (0, .ref (b 0)), (1, .int (nI z)), (2, .int (bI key))]) hx hb dL_tells_35 hl (by decide) rfl (fun ls hl => ?_)
            refine lv_aload_n hx hb dL_tells_37 rfl (lv_at hl 3 rfl) ?_
            refine lv_iload_n hx hb dL_tells_38 rfl (lv_at hl 5 rfl) ?_
            have J_70 : W p l e { frames := 4, cells := 0, slots := 0, locals := 81 } s m args below meth c H locs 0 0 (MQ below (q_QM g (q_adr a b) (q_pqW g a b (telV V z key 10)) (some (.int (bI true)))) args s 0 0 (q_adr a b)) (F0 m 70 ls [.long (telC z key i16), .ref (b 0)]) := by
              refine q_VM (As := [.long (telC z key i16)]) (rest := []) (st2 := [.int (putR (telV V z key i16) (telC z key i16))]) ⟨hx, hb, hml, hown, hts⟩ (c_X4_put l g a b (telV V z key i16) hI (telC z key i16) (by have := tel_pl V z key (k := i16) (by omega); omega)) (cwV 1 hts gL_tells_X4_put rfl rfl rfl (by decide +kernel) ⟨Nat.le_of_ble_eq_true rfl, Nat.le_of_ble_eq_true rfl⟩) q_B_blind (va_recv hK hP (ci := 3) (q0 := 0) rfl rfl) (q_B_of hP hK hN) rfl hl.1 rfl (Nat.le_of_ble_eq_true rfl) dL_tells_70 (Nat.zero_le _) (Nat.zero_le _) hS (fun _ h => h) rfl rfl rfl (fun H locs hP _ hS _ => ?_)
              have hP : va_P g.1 vwCl (q_pqW g a b (putV (telV V z key i16) (telC z key i16))) H := hP
              have hD : va_D (q_adr a b) (q_pqW g a b (putV (telV V z key i16) (telC z key i16))) := q_D hI (fun _ h => h)
              refine lv_iload hx hb dL_tells_73 (lv_at hl 1 rfl) ?_
              refine lv_iconst (v := 1) hx hb dL_tells_75 (by decide) ?_
              refine lv_iadd hx hb dL_tells_76 ?_
              refine lv_icmp_ne (tgt := 84) hx hb dL_tells_77 (by decide) (fun c_77 => ?_) (fun c_77 => ?_)
              · skip
                refine (c_77 ?_).elim; exact ((tel_R (V := telV V z key i16) (by have := tel_pl V z key (k := i16) (by omega); omega)).trans (by rw [tel_pl V z key (by omega), nI_1]))
              · skip
                refine lv_iconst (v := 1) hx hb dL_tells_80 (by decide) ?_
                refine lv_goto (tgt := 85) hx hb dL_tells_81 (by decide) ?_
                refine lv_istore_n (lv' := [(3, .int 1), (5, .int (nI (z / 2 ^ (2 * i16) % 4))), (4, .int (nI i16)), (0, .ref (b 0)), (1, .int (nI z)), (2, .int (bI key))]) hx hb dL_tells_85 rfl hl (by decide) rfl (fun ls hl => ?_)
                refine lv_iinc (v := nI (i16 + 1)) (lv' := [(4, .int (nI (i16 + 1))), (3, .int 1), (5, .int (nI (z / 2 ^ (2 * i16) % 4))), (0, .ref (b 0)), (1, .int (nI z)), (2, .int (bI key))]) hx hb dL_tells_86 hl (k := 2) rfl (nI_1 _) (by decide) rfl (fun ls hl => ?_)
                refine lv_goto (tgt := 16) hx hb dL_tells_89 (by decide) ?_
                exact ih_i16 (i16 + 1) _ _ (hP) hS lt_i16 (by omega) ls (lv_sub hl [0, 1, 3, 4, 5] rfl)
            refine lv_if_ne (tgt := 62) hx hb dL_tells_39 (by decide) (fun c_39 => ?_) (fun c_39 => ?_)
            · skip
              have c_39 : key = true := bI_ne c_39
              refine lv_bipush (v := 48) hx hb dL_tells_62 (by decide) ?_
              refine lv_iload hx hb dL_tells_64 (lv_at hl 0 rfl) ?_
              refine lv_iconst (v := 3) hx hb dL_tells_66 (by decide) ?_
              refine lv_irem hx hb dL_tells_67 (by decide) ?_
              refine q_reI (show (((nI (z / 2 ^ (2 * i16) % 4)) - (nI (z / 2 ^ (2 * i16) % 4)) / 3 * 3) : Int32) = nI (z / 2 ^ (2 * i16) % 4 % 3) from pk_rem (d := 3) (by omega) (by decide) (by decide)) ?_
              refine lv_iadd hx hb dL_tells_68 ?_
              refine lv_i2l (v := (48 + (nI (z / 2 ^ (2 * i16) % 4 % 3))).toInt64) hx hb dL_tells_69 rfl ?_
              refine q_reL (show (((48 + (nI (z / 2 ^ (2 * i16) % 4 % 3))).toInt64) : Int64) = telC z key i16 from by first | exact tel_c45 c_39 c_45 c_53 | exact tel_xC c_53 | exact tel_xB c_45 | exact tel_xA c_39) J_70
            · skip
              have c_39 : key = false := bI_eq c_39
              refine lv_iload hx hb dL_tells_42 (lv_at hl 0 rfl) ?_
              refine lv_iconst (v := 3) hx hb dL_tells_44 (by decide) ?_
              refine lv_icmp_ne (tgt := 62) hx hb dL_tells_45 (by decide) (fun c_45 => ?_) (fun c_45 => ?_)
              · skip
                refine lv_bipush (v := 48) hx hb dL_tells_62 (by decide) ?_
                refine lv_iload hx hb dL_tells_64 (lv_at hl 0 rfl) ?_
                refine lv_iconst (v := 3) hx hb dL_tells_66 (by decide) ?_
                refine lv_irem hx hb dL_tells_67 (by decide) ?_
                refine q_reI (show (((nI (z / 2 ^ (2 * i16) % 4)) - (nI (z / 2 ^ (2 * i16) % 4)) / 3 * 3) : Int32) = nI (z / 2 ^ (2 * i16) % 4 % 3) from pk_rem (d := 3) (by omega) (by decide) (by decide)) ?_
                refine lv_iadd hx hb dL_tells_68 ?_
                refine lv_i2l (v := (48 + (nI (z / 2 ^ (2 * i16) % 4 % 3))).toInt64) hx hb dL_tells_69 rfl ?_
                refine q_reL (show (((48 + (nI (z / 2 ^ (2 * i16) % 4 % 3))).toInt64) : Int64) = telC z key i16 from by first | exact tel_c45 c_39 c_45 c_53 | exact tel_xC c_53 | exact tel_xB c_45 | exact tel_xA c_39) J_70
              · skip
                refine lv_iload hx hb dL_tells_48 (lv_at hl 1 rfl) ?_
                refine lv_iconst (v := 2) hx hb dL_tells_50 (by decide) ?_
                refine lv_irem hx hb dL_tells_51 (by decide) ?_
                refine q_reI (show (((nI i16) - (nI i16) / 2 * 2) : Int32) = nI (i16 % 2) from pk_rem (d := 2) (by omega) (by decide) (by decide)) ?_
                refine lv_iconst (v := 1) hx hb dL_tells_52 (by decide) ?_
                refine lv_icmp_ne (tgt := 62) hx hb dL_tells_53 (by decide) (fun c_53 => ?_) (fun c_53 => ?_)
                · skip
                  refine lv_bipush (v := 48) hx hb dL_tells_62 (by decide) ?_
                  refine lv_iload hx hb dL_tells_64 (lv_at hl 0 rfl) ?_
                  refine lv_iconst (v := 3) hx hb dL_tells_66 (by decide) ?_
                  refine lv_irem hx hb dL_tells_67 (by decide) ?_
                  refine q_reI (show (((nI (z / 2 ^ (2 * i16) % 4)) - (nI (z / 2 ^ (2 * i16) % 4)) / 3 * 3) : Int32) = nI (z / 2 ^ (2 * i16) % 4 % 3) from pk_rem (d := 3) (by omega) (by decide) (by decide)) ?_
                  refine lv_iadd hx hb dL_tells_68 ?_
                  refine lv_i2l (v := (48 + (nI (z / 2 ^ (2 * i16) % 4 % 3))).toInt64) hx hb dL_tells_69 rfl ?_
                  refine q_reL (show (((48 + (nI (z / 2 ^ (2 * i16) % 4 % 3))).toInt64) : Int64) = telC z key i16 from by first | exact tel_c45 c_39 c_45 c_53 | exact tel_xC c_53 | exact tel_xB c_45 | exact tel_xA c_39) J_70
                · skip
                  refine lv_ldc2 (v := 45) hx hb hown (hts (.constantLong RL 56 (45)) (by decide +kernel)) dL_tells_56 ?_
                  refine lv_goto (tgt := 70) hx hb dL_tells_59 (by decide) ?_
                  refine q_reL (show (45 : Int64) = telC z key i16 from by first | exact tel_c45 c_39 c_45 c_53 | exact tel_xC c_53 | exact tel_xB c_45 | exact tel_xA c_39) J_70
    exact L_16 (10 + 1) 0 _ _ (hP) hS (Nat.zero_le _) (by omega) ls (lv_sub hl [0, 1, 2, 3, 4] rfl)
