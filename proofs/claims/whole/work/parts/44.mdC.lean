set_option maxHeartbeats 4000000 in
set_option maxRecDepth 100000 in
theorem c_X5_reaches (l : Launch) (g : q_G) (d : Nat → Nat) (M : q_MV) (S : q_St) (K : Nat) (hc : q_cp S (m_s M)) (ho : q_ok K S) (hK5 : K ≤ 512) (t : Nat) (h1_ : t < 10) : q_PM l yX5_reaches wsX5_reaches { frames := 4, cells := 0, slots := 0, locals := 89 } [.ref (d 0), .int (nI t)] (q_B g (q_mdW g d M)) (.int (gscS S t)) := by
  refine q_pm (cc := cX5_reaches) (maxL := 8) (ret := (some .int)) (by decide) rfl (Nat.le_of_ble_eq_true rfl) ?_
  intro p e s m args below meth c ls hx hb hml hown hts hr hlk hB hl
  obtain ⟨hP, hK, hN⟩ := hB
  have hn10 := ok_n ho
  have fl_7 := hts (.fieldLink RX5 7 "PubQuizzesModel" "s" "[I") (by decide +kernel)
  have hi_X5 : ∀ w ∈ u_ws RX5 TX5 7, w ∈ wsX5_reaches := by decide +kernel
  have hl : lv_has ls 8 [(0, .ref (d 0)), (1, .int (nI t))] := hl
  refine lv_aload_n hx hb dX5_reaches_0 rfl (lv_at hl 0 rfl) ?_
  refine lv_iload_n hx hb dX5_reaches_1 rfl (lv_at hl 1 rfl) ?_
  refine q_V (As := [.int (nI t)]) (rest := []) ⟨hx, hb, hml, hown, hts⟩ (c_X5_score l g d M S K hc ho hK5 t (by omega)) (cwV 1 hts gX5_reaches_X5_score rfl rfl rfl (by decide +kernel) ⟨Nat.le_of_ble_eq_true rfl, Nat.le_of_ble_eq_true rfl⟩) q_B_blind (va_recv hK hP (ci := 4) (q0 := 0) rfl rfl) (q_B_of hP hK hN) rfl hl.1 rfl (Nat.le_of_ble_eq_true rfl) dX5_reaches_2 (Nat.zero_le _) (Nat.zero_le _) ?_
  refine lv_istore_n (lv' := [(2, .int (scoS S t)), (0, .ref (d 0)), (1, .int (nI t))]) hx hb dX5_reaches_5 rfl hl (by decide) rfl (fun ls hl => ?_)
  refine lv_iconst (v := 0) hx hb dX5_reaches_6 (by decide) ?_
  refine lv_istore_n (lv' := [(3, .int 0), (2, .int (scoS S t)), (0, .ref (d 0)), (1, .int (nI t))]) hx hb dX5_reaches_7 rfl hl (by decide) rfl (fun ls hl => ?_)
  refine lv_iconst (v := 0) hx hb dX5_reaches_8 (by decide) ?_
  refine lv_istore (lv' := [(4, .int 0), (3, .int 0), (2, .int (scoS S t)), (0, .ref (d 0)), (1, .int (nI t))]) hx hb dX5_reaches_9 hl (by decide) rfl (fun ls hl => ?_)
  have L_11 : ∀ (fu i11 : Nat) (y3_11 : Int32) (y2_11 : Int32), y3_11 = bI (q_any (nonS S t) i11) → y2_11 = q_acc (scoS S t) (extS S t) i11 → i11 ≤ 8 → 8 < i11 + fu → ∀ ls : Array Slot, lv_has ls 8 [(4, .int (nI i11)), (3, .int y3_11), (2, .int y2_11), (0, .ref (d 0)), (1, .int (nI t))] → W p l e { frames := 4, cells := 0, slots := 0, locals := 89 } s m args below meth c s.heap [] 0 0 (MQ below (k2_QcV (.int (gscS S t))) args s 0 0 (fun _ => False)) (F0 m 11 ls []) := by
    intro fu
    induction fu with
    | zero => intro i11 y3_11 y2_11 ey3_11 ey2_11 hi_i11 hn_i11; exact absurd hn_i11 (by omega)
    | succ fu ih_i11 =>
      intro i11 y3_11 y2_11 ey3_11 ey2_11 hi_i11 hn_i11 ls hl
      subst ey3_11
      subst ey2_11
      refine lv_iload hx hb dX5_reaches_11 (lv_at hl 0 rfl) ?_
      refine lv_bipush (v := 8) hx hb dX5_reaches_13 (by decide) ?_
      refine lv_icmp_ge (tgt := 149) hx hb dX5_reaches_15 (by decide) (fun c_15 => ?_) (fun c_15 => ?_)
      · skip
        have e_15 : i11 = 8 := q_ge_T (by omega) hi_i11 c_15
        subst e_15
        refine lv_iload_n hx hb dX5_reaches_149 rfl (lv_at hl 2 rfl) ?_
        refine lv_iload_n hx hb dX5_reaches_150 rfl (lv_at hl 1 rfl) ?_
        refine lv_if_eq (tgt := 173) hx hb dX5_reaches_151 (by decide) (fun c_151 => ?_) (fun c_151 => ?_)
        · skip
          have c_151 : (q_any (nonS S t) 8) = false := bI_eq c_151
          refine lv_iconst (v := 0) hx hb dX5_reaches_173 (by decide) ?_
          refine lv_iadd hx hb dX5_reaches_174 ?_
          exact q_iret hx hb hr hlk dX5_reaches_175 (by first | exact rea_1 ho h1_ c_151 c_165 | exact rea_2 ho h1_ (Or.inr c_165) | exact rea_2 ho h1_ (Or.inl c_151))
        · skip
          have c_151 : (q_any (nonS S t) 8) = true := bI_ne c_151
          refine lv_aload_n hx hb dX5_reaches_154 rfl (lv_at hl 3 rfl) ?_
          refine va_get (D := g.1) (ci := 4) (v := .ref (d 1)) (C := RX5) (T := TX5) (N := 7) hx hb hts hi_X5 hown hK hP 0 rfl rfl 0 (by decide) fl_7 (fun _ h9 => h9) rfl dX5_reaches_155 ?_
          refine lv_iload_n hx hb dX5_reaches_158 rfl (lv_at hl 4 rfl) ?_
          refine q_S (As := [.int (nI t)]) (rest := [.ref (d 1), .int (q_acc (scoS S t) (extS S t) 8)]) ⟨hx, hb, hml, hown, hts⟩ (c_X5_t l t ) (va_cwS 1 hts gX5_reaches_X5_t rfl rfl rfl (by decide +kernel) ⟨Nat.le_of_ble_eq_true rfl, Nat.le_of_ble_eq_true rfl⟩) q_Blind_t (fun _ _ _ => trivial) rfl hl.1 rfl (Nat.le_of_ble_eq_true rfl) dX5_reaches_159 (Nat.zero_le _) (Nat.zero_le _) ?_
          refine lv_iconst (v := 1) hx hb dX5_reaches_162 (by decide) ?_
          refine lv_iadd hx hb dX5_reaches_163 ?_
          refine q_reI (show (((nI (96 + 4 * t)) + 1) : Int32) = nI (96 + 4 * t + 1) from nI_add _ _) ?_
          refine q_iald (j := (96 + 4 * t + 1)) hx hb hK hP 1 0 rfl rfl (by omega) (by decide) dX5_reaches_164 ?_
          refine q_reI (show (m_s M (96 + 4 * t + 1) : Int32) = jkI (s_jok S t) from cp_jok hc (t := t) (by omega)) ?_
          refine lv_if_ne (tgt := 173) hx hb dX5_reaches_165 (by decide) (fun c_165 => ?_) (fun c_165 => ?_)
          · skip
            have c_165 := jk_n0 c_165
            refine lv_iconst (v := 0) hx hb dX5_reaches_173 (by decide) ?_
            refine lv_iadd hx hb dX5_reaches_174 ?_
            exact q_iret hx hb hr hlk dX5_reaches_175 (by first | exact rea_1 ho h1_ c_151 c_165 | exact rea_2 ho h1_ (Or.inr c_165) | exact rea_2 ho h1_ (Or.inl c_151))
          · skip
            have c_165 := jk_0 (jk_wk (ok_jok ho (t := t) (by omega))) c_165
            refine lv_bipush (v := 10) hx hb dX5_reaches_168 (by decide) ?_
            refine lv_goto (tgt := 174) hx hb dX5_reaches_170 (by decide) ?_
            refine lv_iadd hx hb dX5_reaches_174 ?_
            exact q_iret hx hb hr hlk dX5_reaches_175 (by first | exact rea_1 ho h1_ c_151 c_165 | exact rea_2 ho h1_ (Or.inr c_165) | exact rea_2 ho h1_ (Or.inl c_151))
      · skip
        have lt_i11 : i11 < 8 := q_ge_F (by omega) hi_i11 c_15
        refine lv_iload_n hx hb dX5_reaches_18 rfl (lv_at hl 4 rfl) ?_
        refine lv_iload hx hb dX5_reaches_19 (lv_at hl 0 rfl) ?_
        refine q_S (As := [.int (nI t), .int (nI i11)]) (rest := []) ⟨hx, hb, hml, hown, hts⟩ (c_X5_h l t i11 ) (va_cwS 2 hts gX5_reaches_X5_h rfl rfl rfl (by decide +kernel) ⟨Nat.le_of_ble_eq_true rfl, Nat.le_of_ble_eq_true rfl⟩) q_Blind_t (fun _ _ _ => trivial) rfl hl.1 rfl (Nat.le_of_ble_eq_true rfl) dX5_reaches_21 (Nat.zero_le _) (Nat.zero_le _) ?_
        refine lv_istore (lv' := [(5, .int (nI (136 + 15 * (t * 8 + i11)))), (4, .int (nI i11)), (3, .int (bI (q_any (nonS S t) i11))), (2, .int (q_acc (scoS S t) (extS S t) i11)), (0, .ref (d 0)), (1, .int (nI t))]) hx hb dX5_reaches_24 hl (by decide) rfl (fun ls hl => ?_)
        refine lv_aload_n hx hb dX5_reaches_26 rfl (lv_at hl 4 rfl) ?_
        refine va_get (D := g.1) (ci := 4) (v := .ref (d 1)) (C := RX5) (T := TX5) (N := 7) hx hb hts hi_X5 hown hK hP 0 rfl rfl 0 (by decide) fl_7 (fun _ h9 => h9) rfl dX5_reaches_27 ?_
        refine lv_iload hx hb dX5_reaches_30 (lv_at hl 0 rfl) ?_
        refine lv_iconst (v := 0) hx hb dX5_reaches_32 (by decide) ?_
        refine lv_iadd hx hb dX5_reaches_33 ?_
        refine q_reI (show (((nI (136 + 15 * (t * 8 + i11))) + 0) : Int32) = nI (136 + 15 * (t * 8 + i11) + 0) from nI_add _ _) ?_
        refine q_iald (j := (136 + 15 * (t * 8 + i11) + 0)) hx hb hK hP 1 0 rfl rfl (by omega) (by decide) dX5_reaches_34 ?_
        refine q_reI (show (m_s M (136 + 15 * (t * 8 + i11) + 0) : Int32) = bI (hasS S t i11) from cp_has hc (t := t) (r := i11) (by omega) (by omega)) ?_
        refine lv_if_ne (tgt := 51) hx hb dX5_reaches_35 (by decide) (fun c_35 => ?_) (fun c_35 => ?_)
        · skip
          have c_35 : (hasS S t i11) = true := bI_ne c_35
          refine lv_iconst (v := 0) hx hb dX5_reaches_51 (by decide) ?_
          refine lv_istore (lv' := [(6, .int 0), (5, .int (nI (136 + 15 * (t * 8 + i11)))), (4, .int (nI i11)), (3, .int (bI (q_any (nonS S t) i11))), (2, .int (q_acc (scoS S t) (extS S t) i11)), (0, .ref (d 0)), (1, .int (nI t))]) hx hb dX5_reaches_52 hl (by decide) rfl (fun ls hl => ?_)
          refine lv_iload hx hb dX5_reaches_54 (lv_at hl 0 rfl) ?_
          refine lv_if_ne (tgt := 84) hx hb dX5_reaches_56 (by decide) (fun c_56 => ?_) (fun c_56 => ?_)
          · skip
            exact absurd c_56 (by decide)
          · skip
            refine lv_aload_n hx hb dX5_reaches_59 rfl (lv_at hl 5 rfl) ?_
            refine va_get (D := g.1) (ci := 4) (v := .ref (d 1)) (C := RX5) (T := TX5) (N := 7) hx hb hts hi_X5 hown hK hP 0 rfl rfl 0 (by decide) fl_7 (fun _ h9 => h9) rfl dX5_reaches_60 ?_
            refine lv_iload hx hb dX5_reaches_63 (lv_at hl 1 rfl) ?_
            refine lv_iconst (v := 0) hx hb dX5_reaches_65 (by decide) ?_
            refine lv_iadd hx hb dX5_reaches_66 ?_
            refine q_reI (show (((nI (136 + 15 * (t * 8 + i11))) + 0) : Int32) = nI (136 + 15 * (t * 8 + i11) + 0) from nI_add _ _) ?_
            refine q_iald (j := (136 + 15 * (t * 8 + i11) + 0)) hx hb hK hP 1 0 rfl rfl (by omega) (by decide) dX5_reaches_67 ?_
            refine q_reI (show (m_s M (136 + 15 * (t * 8 + i11) + 0) : Int32) = bI (hasS S t i11) from cp_has hc (t := t) (r := i11) (by omega) (by omega)) ?_
            refine lv_iconst (v := 1) hx hb dX5_reaches_68 (by decide) ?_
            refine lv_icmp_ne (tgt := 88) hx hb dX5_reaches_69 (by decide) (fun c_69 => ?_) (fun c_69 => ?_)
            · skip
              have c_69 : (hasS S t i11) = false := bI_n1 c_69
              exact absurd (c_35.symm.trans c_69) (by decide)
            · skip
              refine lv_aload_n hx hb dX5_reaches_72 rfl (lv_at hl 5 rfl) ?_
              refine va_get (D := g.1) (ci := 4) (v := .ref (d 1)) (C := RX5) (T := TX5) (N := 7) hx hb hts hi_X5 hown hK hP 0 rfl rfl 0 (by decide) fl_7 (fun _ h9 => h9) rfl dX5_reaches_73 ?_
              refine lv_iload hx hb dX5_reaches_76 (lv_at hl 1 rfl) ?_
              refine lv_iconst (v := 1) hx hb dX5_reaches_78 (by decide) ?_
              refine lv_iadd hx hb dX5_reaches_79 ?_
              refine q_reI (show (((nI (136 + 15 * (t * 8 + i11))) + 1) : Int32) = nI (136 + 15 * (t * 8 + i11) + 1) from nI_add _ _) ?_
              refine q_iald (j := (136 + 15 * (t * 8 + i11) + 1)) hx hb hK hP 1 0 rfl rfl (by omega) (by decide) dX5_reaches_80 ?_
              refine q_reI (show (m_s M (136 + 15 * (t * 8 + i11) + 1) : Int32) = bI (tldS S t i11) from cp_tld hc (t := t) (r := i11) (by omega) (by omega)) ?_
              refine lv_if_ne (tgt := 88) hx hb dX5_reaches_81 (by decide) (fun c_81 => ?_) (fun c_81 => ?_)
              · skip
                have c_81 : (tldS S t i11) = true := bI_ne c_81
                refine lv_iconst (v := 0) hx hb dX5_reaches_88 (by decide) ?_
                refine lv_istore (lv' := [(7, .int 0), (6, .int 0), (5, .int (nI (136 + 15 * (t * 8 + i11)))), (4, .int (nI i11)), (3, .int (bI (q_any (nonS S t) i11))), (2, .int (q_acc (scoS S t) (extS S t) i11)), (0, .ref (d 0)), (1, .int (nI t))]) hx hb dX5_reaches_89 hl (by decide) rfl (fun ls hl => ?_)
                refine lv_iload_n hx hb dX5_reaches_91 rfl (lv_at hl 5 rfl) ?_
                refine lv_iload hx hb dX5_reaches_92 (lv_at hl 0 rfl) ?_
                refine lv_if_ne (tgt := 101) hx hb dX5_reaches_94 (by decide) (fun c_94 => ?_) (fun c_94 => ?_)
                · skip
                  exact absurd c_94 (by decide)
                · skip
                  refine lv_iconst (v := 0) hx hb dX5_reaches_97 (by decide) ?_
                  refine lv_goto (tgt := 126) hx hb dX5_reaches_98 (by decide) ?_
                  refine lv_iadd hx hb dX5_reaches_126 ?_
                  refine lv_istore_n (lv' := [(2, .int ((q_acc (scoS S t) (extS S t) i11) + 0)), (7, .int 0), (6, .int 0), (5, .int (nI (136 + 15 * (t * 8 + i11)))), (4, .int (nI i11)), (3, .int (bI (q_any (nonS S t) i11))), (0, .ref (d 0)), (1, .int (nI t))]) hx hb dX5_reaches_127 rfl hl (by decide) rfl (fun ls hl => ?_)
                  refine lv_iload_n hx hb dX5_reaches_128 rfl (lv_at hl 5 rfl) ?_
                  refine lv_if_ne (tgt := 137) hx hb dX5_reaches_129 (by decide) (fun c_129 => ?_) (fun c_129 => ?_)
                  · skip
                    have c_129 : (q_any (nonS S t) i11) = true := bI_ne c_129
                    refine lv_iconst (v := 1) hx hb dX5_reaches_137 (by decide) ?_
                    refine lv_goto (tgt := 142) hx hb dX5_reaches_138 (by decide) ?_
                    refine lv_istore_n (lv' := [(3, .int 1), (2, .int ((q_acc (scoS S t) (extS S t) i11) + 0)), (7, .int 0), (6, .int 0), (5, .int (nI (136 + 15 * (t * 8 + i11)))), (4, .int (nI i11)), (0, .ref (d 0)), (1, .int (nI t))]) hx hb dX5_reaches_142 rfl hl (by decide) rfl (fun ls hl => ?_)
                    refine lv_iinc (v := nI (i11 + 1)) (lv' := [(4, .int (nI (i11 + 1))), (3, .int 1), (2, .int ((q_acc (scoS S t) (extS S t) i11) + 0)), (7, .int 0), (6, .int 0), (5, .int (nI (136 + 15 * (t * 8 + i11)))), (0, .ref (d 0)), (1, .int (nI t))]) hx hb dX5_reaches_143 hl (k := 5) rfl (nI_1 _) (by decide) rfl (fun ls hl => ?_)
                    refine lv_goto (tgt := 11) hx hb dX5_reaches_146 (by decide) ?_
                    exact ih_i11 (i11 + 1) 1 ((q_acc (scoS S t) (extS S t) i11) + 0) (by simp [q_acc, q_any, extS, mayS, nonS, bI, c_35, c_81, c_129]) (by simp [q_acc, q_any, extS, mayS, nonS, bI, c_35, c_81, c_129]) lt_i11 (by omega) ls (lv_sub hl [0, 1, 2, 6, 7] rfl)
                  · skip
                    have c_129 : (q_any (nonS S t) i11) = false := bI_eq c_129
                    refine lv_iload hx hb dX5_reaches_132 (lv_at hl 2 rfl) ?_
                    refine lv_if_eq (tgt := 141) hx hb dX5_reaches_134 (by decide) (fun c_134 => ?_) (fun c_134 => ?_)
                    · skip
                      refine lv_iconst (v := 0) hx hb dX5_reaches_141 (by decide) ?_
                      refine lv_istore_n (lv' := [(3, .int 0), (2, .int ((q_acc (scoS S t) (extS S t) i11) + 0)), (7, .int 0), (6, .int 0), (5, .int (nI (136 + 15 * (t * 8 + i11)))), (4, .int (nI i11)), (0, .ref (d 0)), (1, .int (nI t))]) hx hb dX5_reaches_142 rfl hl (by decide) rfl (fun ls hl => ?_)
                      refine lv_iinc (v := nI (i11 + 1)) (lv' := [(4, .int (nI (i11 + 1))), (3, .int 0), (2, .int ((q_acc (scoS S t) (extS S t) i11) + 0)), (7, .int 0), (6, .int 0), (5, .int (nI (136 + 15 * (t * 8 + i11)))), (0, .ref (d 0)), (1, .int (nI t))]) hx hb dX5_reaches_143 hl (k := 5) rfl (nI_1 _) (by decide) rfl (fun ls hl => ?_)
                      refine lv_goto (tgt := 11) hx hb dX5_reaches_146 (by decide) ?_
                      exact ih_i11 (i11 + 1) 0 ((q_acc (scoS S t) (extS S t) i11) + 0) (by simp [q_acc, q_any, extS, mayS, nonS, bI, c_35, c_81, c_129]) (by simp [q_acc, q_any, extS, mayS, nonS, bI, c_35, c_81, c_129]) lt_i11 (by omega) ls (lv_sub hl [0, 1, 2, 6, 7] rfl)
                    · skip
                      exact absurd c_134 (by decide)
              · skip
                have c_81 : (tldS S t i11) = false := bI_eq c_81
                refine lv_iconst (v := 1) hx hb dX5_reaches_84 (by decide) ?_
                refine lv_goto (tgt := 89) hx hb dX5_reaches_85 (by decide) ?_
                refine lv_istore (lv' := [(7, .int 1), (6, .int 0), (5, .int (nI (136 + 15 * (t * 8 + i11)))), (4, .int (nI i11)), (3, .int (bI (q_any (nonS S t) i11))), (2, .int (q_acc (scoS S t) (extS S t) i11)), (0, .ref (d 0)), (1, .int (nI t))]) hx hb dX5_reaches_89 hl (by decide) rfl (fun ls hl => ?_)
                refine lv_iload_n hx hb dX5_reaches_91 rfl (lv_at hl 5 rfl) ?_
                refine lv_iload hx hb dX5_reaches_92 (lv_at hl 0 rfl) ?_
                refine lv_if_ne (tgt := 101) hx hb dX5_reaches_94 (by decide) (fun c_94 => ?_) (fun c_94 => ?_)
                · skip
                  refine lv_aload_n hx hb dX5_reaches_101 rfl (lv_at hl 6 rfl) ?_
                  refine va_get (D := g.1) (ci := 4) (v := .ref (d 1)) (C := RX5) (T := TX5) (N := 7) hx hb hts hi_X5 hown hK hP 0 rfl rfl 0 (by decide) fl_7 (fun _ h9 => h9) rfl dX5_reaches_102 ?_
                  refine lv_iload_n hx hb dX5_reaches_105 rfl (lv_at hl 7 rfl) ?_
                  refine q_S (As := [.int (nI t)]) (rest := [.ref (d 1), .int (q_acc (scoS S t) (extS S t) i11)]) ⟨hx, hb, hml, hown, hts⟩ (c_X5_t l t ) (va_cwS 1 hts gX5_reaches_X5_t rfl rfl rfl (by decide +kernel) ⟨Nat.le_of_ble_eq_true rfl, Nat.le_of_ble_eq_true rfl⟩) q_Blind_t (fun _ _ _ => trivial) rfl hl.1 rfl (Nat.le_of_ble_eq_true rfl) dX5_reaches_106 (Nat.zero_le _) (Nat.zero_le _) ?_
                  refine lv_iconst (v := 1) hx hb dX5_reaches_109 (by decide) ?_
                  refine lv_iadd hx hb dX5_reaches_110 ?_
                  refine q_reI (show (((nI (96 + 4 * t)) + 1) : Int32) = nI (96 + 4 * t + 1) from nI_add _ _) ?_
                  refine q_iald (j := (96 + 4 * t + 1)) hx hb hK hP 1 0 rfl rfl (by omega) (by decide) dX5_reaches_111 ?_
                  refine q_reI (show (m_s M (96 + 4 * t + 1) : Int32) = jkI (s_jok S t) from cp_jok hc (t := t) (by omega)) ?_
                  refine lv_iload hx hb dX5_reaches_112 (lv_at hl 3 rfl) ?_
                  refine lv_iconst (v := 1) hx hb dX5_reaches_114 (by decide) ?_
                  refine lv_iadd hx hb dX5_reaches_115 ?_
                  refine q_reI (show (((nI i11) + 1) : Int32) = nI (i11 + 1) from nI_add _ _) ?_
                  refine lv_icmp_ne (tgt := 124) hx hb dX5_reaches_116 (by decide) (fun c_116 => ?_) (fun c_116 => ?_)
                  · skip
                    have c_116 := jk_f (by omega) c_116
                    refine lv_bipush (v := 10) hx hb dX5_reaches_124 (by decide) ?_
                    refine lv_iadd hx hb dX5_reaches_126 ?_
                    refine lv_istore_n (lv' := [(2, .int ((q_acc (scoS S t) (extS S t) i11) + 10)), (7, .int 1), (6, .int 0), (5, .int (nI (136 + 15 * (t * 8 + i11)))), (4, .int (nI i11)), (3, .int (bI (q_any (nonS S t) i11))), (0, .ref (d 0)), (1, .int (nI t))]) hx hb dX5_reaches_127 rfl hl (by decide) rfl (fun ls hl => ?_)
                    refine lv_iload_n hx hb dX5_reaches_128 rfl (lv_at hl 5 rfl) ?_
                    refine lv_if_ne (tgt := 137) hx hb dX5_reaches_129 (by decide) (fun c_129 => ?_) (fun c_129 => ?_)
                    · skip
                      have c_129 : (q_any (nonS S t) i11) = true := bI_ne c_129
                      refine lv_iconst (v := 1) hx hb dX5_reaches_137 (by decide) ?_
                      refine lv_goto (tgt := 142) hx hb dX5_reaches_138 (by decide) ?_
                      refine lv_istore_n (lv' := [(3, .int 1), (2, .int ((q_acc (scoS S t) (extS S t) i11) + 10)), (7, .int 1), (6, .int 0), (5, .int (nI (136 + 15 * (t * 8 + i11)))), (4, .int (nI i11)), (0, .ref (d 0)), (1, .int (nI t))]) hx hb dX5_reaches_142 rfl hl (by decide) rfl (fun ls hl => ?_)
                      refine lv_iinc (v := nI (i11 + 1)) (lv' := [(4, .int (nI (i11 + 1))), (3, .int 1), (2, .int ((q_acc (scoS S t) (extS S t) i11) + 10)), (7, .int 1), (6, .int 0), (5, .int (nI (136 + 15 * (t * 8 + i11)))), (0, .ref (d 0)), (1, .int (nI t))]) hx hb dX5_reaches_143 hl (k := 5) rfl (nI_1 _) (by decide) rfl (fun ls hl => ?_)
                      refine lv_goto (tgt := 11) hx hb dX5_reaches_146 (by decide) ?_
                      exact ih_i11 (i11 + 1) 1 ((q_acc (scoS S t) (extS S t) i11) + 10) (by simp [q_acc, q_any, extS, mayS, nonS, bI, c_35, c_81, c_116, c_129]) (by simp [q_acc, q_any, extS, mayS, nonS, bI, c_35, c_81, c_116, c_129]) lt_i11 (by omega) ls (lv_sub hl [0, 1, 2, 6, 7] rfl)
                    · skip
                      have c_129 : (q_any (nonS S t) i11) = false := bI_eq c_129
                      refine lv_iload hx hb dX5_reaches_132 (lv_at hl 2 rfl) ?_
                      refine lv_if_eq (tgt := 141) hx hb dX5_reaches_134 (by decide) (fun c_134 => ?_) (fun c_134 => ?_)
                      · skip
                        refine lv_iconst (v := 0) hx hb dX5_reaches_141 (by decide) ?_
                        refine lv_istore_n (lv' := [(3, .int 0), (2, .int ((q_acc (scoS S t) (extS S t) i11) + 10)), (7, .int 1), (6, .int 0), (5, .int (nI (136 + 15 * (t * 8 + i11)))), (4, .int (nI i11)), (0, .ref (d 0)), (1, .int (nI t))]) hx hb dX5_reaches_142 rfl hl (by decide) rfl (fun ls hl => ?_)
                        refine lv_iinc (v := nI (i11 + 1)) (lv' := [(4, .int (nI (i11 + 1))), (3, .int 0), (2, .int ((q_acc (scoS S t) (extS S t) i11) + 10)), (7, .int 1), (6, .int 0), (5, .int (nI (136 + 15 * (t * 8 + i11)))), (0, .ref (d 0)), (1, .int (nI t))]) hx hb dX5_reaches_143 hl (k := 5) rfl (nI_1 _) (by decide) rfl (fun ls hl => ?_)
                        refine lv_goto (tgt := 11) hx hb dX5_reaches_146 (by decide) ?_
                        exact ih_i11 (i11 + 1) 0 ((q_acc (scoS S t) (extS S t) i11) + 10) (by simp [q_acc, q_any, extS, mayS, nonS, bI, c_35, c_81, c_116, c_129]) (by simp [q_acc, q_any, extS, mayS, nonS, bI, c_35, c_81, c_116, c_129]) lt_i11 (by omega) ls (lv_sub hl [0, 1, 2, 6, 7] rfl)
                      · skip
                        exact absurd c_134 (by decide)
                  · skip
                    have c_116 := jk_t (ok_jok ho (t := t) (by omega)) (by omega) c_116
                    refine lv_bipush (v := 20) hx hb dX5_reaches_119 (by decide) ?_
                    refine lv_goto (tgt := 126) hx hb dX5_reaches_121 (by decide) ?_
                    refine lv_iadd hx hb dX5_reaches_126 ?_
                    refine lv_istore_n (lv' := [(2, .int ((q_acc (scoS S t) (extS S t) i11) + 20)), (7, .int 1), (6, .int 0), (5, .int (nI (136 + 15 * (t * 8 + i11)))), (4, .int (nI i11)), (3, .int (bI (q_any (nonS S t) i11))), (0, .ref (d 0)), (1, .int (nI t))]) hx hb dX5_reaches_127 rfl hl (by decide) rfl (fun ls hl => ?_)
                    refine lv_iload_n hx hb dX5_reaches_128 rfl (lv_at hl 5 rfl) ?_
                    refine lv_if_ne (tgt := 137) hx hb dX5_reaches_129 (by decide) (fun c_129 => ?_) (fun c_129 => ?_)
                    · skip
                      have c_129 : (q_any (nonS S t) i11) = true := bI_ne c_129
                      refine lv_iconst (v := 1) hx hb dX5_reaches_137 (by decide) ?_
                      refine lv_goto (tgt := 142) hx hb dX5_reaches_138 (by decide) ?_
                      refine lv_istore_n (lv' := [(3, .int 1), (2, .int ((q_acc (scoS S t) (extS S t) i11) + 20)), (7, .int 1), (6, .int 0), (5, .int (nI (136 + 15 * (t * 8 + i11)))), (4, .int (nI i11)), (0, .ref (d 0)), (1, .int (nI t))]) hx hb dX5_reaches_142 rfl hl (by decide) rfl (fun ls hl => ?_)
                      refine lv_iinc (v := nI (i11 + 1)) (lv' := [(4, .int (nI (i11 + 1))), (3, .int 1), (2, .int ((q_acc (scoS S t) (extS S t) i11) + 20)), (7, .int 1), (6, .int 0), (5, .int (nI (136 + 15 * (t * 8 + i11)))), (0, .ref (d 0)), (1, .int (nI t))]) hx hb dX5_reaches_143 hl (k := 5) rfl (nI_1 _) (by decide) rfl (fun ls hl => ?_)
                      refine lv_goto (tgt := 11) hx hb dX5_reaches_146 (by decide) ?_
                      exact ih_i11 (i11 + 1) 1 ((q_acc (scoS S t) (extS S t) i11) + 20) (by simp [q_acc, q_any, extS, mayS, nonS, bI, c_35, c_81, c_116, c_129]) (by simp [q_acc, q_any, extS, mayS, nonS, bI, c_35, c_81, c_116, c_129]) lt_i11 (by omega) ls (lv_sub hl [0, 1, 2, 6, 7] rfl)
                    · skip
                      have c_129 : (q_any (nonS S t) i11) = false := bI_eq c_129
                      refine lv_iload hx hb dX5_reaches_132 (lv_at hl 2 rfl) ?_
                      refine lv_if_eq (tgt := 141) hx hb dX5_reaches_134 (by decide) (fun c_134 => ?_) (fun c_134 => ?_)
                      · skip
                        refine lv_iconst (v := 0) hx hb dX5_reaches_141 (by decide) ?_
                        refine lv_istore_n (lv' := [(3, .int 0), (2, .int ((q_acc (scoS S t) (extS S t) i11) + 20)), (7, .int 1), (6, .int 0), (5, .int (nI (136 + 15 * (t * 8 + i11)))), (4, .int (nI i11)), (0, .ref (d 0)), (1, .int (nI t))]) hx hb dX5_reaches_142 rfl hl (by decide) rfl (fun ls hl => ?_)
                        refine lv_iinc (v := nI (i11 + 1)) (lv' := [(4, .int (nI (i11 + 1))), (3, .int 0), (2, .int ((q_acc (scoS S t) (extS S t) i11) + 20)), (7, .int 1), (6, .int 0), (5, .int (nI (136 + 15 * (t * 8 + i11)))), (0, .ref (d 0)), (1, .int (nI t))]) hx hb dX5_reaches_143 hl (k := 5) rfl (nI_1 _) (by decide) rfl (fun ls hl => ?_)
                        refine lv_goto (tgt := 11) hx hb dX5_reaches_146 (by decide) ?_
                        exact ih_i11 (i11 + 1) 0 ((q_acc (scoS S t) (extS S t) i11) + 20) (by simp [q_acc, q_any, extS, mayS, nonS, bI, c_35, c_81, c_116, c_129]) (by simp [q_acc, q_any, extS, mayS, nonS, bI, c_35, c_81, c_116, c_129]) lt_i11 (by omega) ls (lv_sub hl [0, 1, 2, 6, 7] rfl)
                      · skip
                        exact absurd c_134 (by decide)
                · skip
                  exact absurd c_94 (by decide)
        · skip
          have c_35 : (hasS S t i11) = false := bI_eq c_35
          refine lv_aload_n hx hb dX5_reaches_38 rfl (lv_at hl 4 rfl) ?_
          refine lv_iload hx hb dX5_reaches_39 (lv_at hl 1 rfl) ?_
          refine q_V (As := [.int (nI i11)]) (rest := []) ⟨hx, hb, hml, hown, hts⟩ (c_X5_isOpen l g d M S K hc ho hK5 i11 (by omega)) (cwV 1 hts gX5_reaches_X5_isOpen rfl rfl rfl (by decide +kernel) ⟨Nat.le_of_ble_eq_true rfl, Nat.le_of_ble_eq_true rfl⟩) q_B_blind (va_recv hK hP (ci := 4) (q0 := 0) rfl rfl) (q_B_of hP hK hN) rfl hl.1 rfl (Nat.le_of_ble_eq_true rfl) dX5_reaches_41 (Nat.zero_le _) (Nat.zero_le _) ?_
          refine lv_if_eq (tgt := 51) hx hb dX5_reaches_44 (by decide) (fun c_44 => ?_) (fun c_44 => ?_)
          · skip
            have c_44 : (isOp S i11) = false := bI_eq c_44
            refine lv_iconst (v := 0) hx hb dX5_reaches_51 (by decide) ?_
            refine lv_istore (lv' := [(6, .int 0), (5, .int (nI (136 + 15 * (t * 8 + i11)))), (4, .int (nI i11)), (3, .int (bI (q_any (nonS S t) i11))), (2, .int (q_acc (scoS S t) (extS S t) i11)), (0, .ref (d 0)), (1, .int (nI t))]) hx hb dX5_reaches_52 hl (by decide) rfl (fun ls hl => ?_)
            refine lv_iload hx hb dX5_reaches_54 (lv_at hl 0 rfl) ?_
            refine lv_if_ne (tgt := 84) hx hb dX5_reaches_56 (by decide) (fun c_56 => ?_) (fun c_56 => ?_)
            · skip
              exact absurd c_56 (by decide)
            · skip
              refine lv_aload_n hx hb dX5_reaches_59 rfl (lv_at hl 5 rfl) ?_
              refine va_get (D := g.1) (ci := 4) (v := .ref (d 1)) (C := RX5) (T := TX5) (N := 7) hx hb hts hi_X5 hown hK hP 0 rfl rfl 0 (by decide) fl_7 (fun _ h9 => h9) rfl dX5_reaches_60 ?_
              refine lv_iload hx hb dX5_reaches_63 (lv_at hl 1 rfl) ?_
              refine lv_iconst (v := 0) hx hb dX5_reaches_65 (by decide) ?_
              refine lv_iadd hx hb dX5_reaches_66 ?_
              refine q_reI (show (((nI (136 + 15 * (t * 8 + i11))) + 0) : Int32) = nI (136 + 15 * (t * 8 + i11) + 0) from nI_add _ _) ?_
              refine q_iald (j := (136 + 15 * (t * 8 + i11) + 0)) hx hb hK hP 1 0 rfl rfl (by omega) (by decide) dX5_reaches_67 ?_
              refine q_reI (show (m_s M (136 + 15 * (t * 8 + i11) + 0) : Int32) = bI (hasS S t i11) from cp_has hc (t := t) (r := i11) (by omega) (by omega)) ?_
              refine lv_iconst (v := 1) hx hb dX5_reaches_68 (by decide) ?_
              refine lv_icmp_ne (tgt := 88) hx hb dX5_reaches_69 (by decide) (fun c_69 => ?_) (fun c_69 => ?_)
              · skip
                refine lv_iconst (v := 0) hx hb dX5_reaches_88 (by decide) ?_
                refine lv_istore (lv' := [(7, .int 0), (6, .int 0), (5, .int (nI (136 + 15 * (t * 8 + i11)))), (4, .int (nI i11)), (3, .int (bI (q_any (nonS S t) i11))), (2, .int (q_acc (scoS S t) (extS S t) i11)), (0, .ref (d 0)), (1, .int (nI t))]) hx hb dX5_reaches_89 hl (by decide) rfl (fun ls hl => ?_)
                refine lv_iload_n hx hb dX5_reaches_91 rfl (lv_at hl 5 rfl) ?_
                refine lv_iload hx hb dX5_reaches_92 (lv_at hl 0 rfl) ?_
                refine lv_if_ne (tgt := 101) hx hb dX5_reaches_94 (by decide) (fun c_94 => ?_) (fun c_94 => ?_)
                · skip
                  exact absurd c_94 (by decide)
                · skip
                  refine lv_iconst (v := 0) hx hb dX5_reaches_97 (by decide) ?_
                  refine lv_goto (tgt := 126) hx hb dX5_reaches_98 (by decide) ?_
                  refine lv_iadd hx hb dX5_reaches_126 ?_
                  refine lv_istore_n (lv' := [(2, .int ((q_acc (scoS S t) (extS S t) i11) + 0)), (7, .int 0), (6, .int 0), (5, .int (nI (136 + 15 * (t * 8 + i11)))), (4, .int (nI i11)), (3, .int (bI (q_any (nonS S t) i11))), (0, .ref (d 0)), (1, .int (nI t))]) hx hb dX5_reaches_127 rfl hl (by decide) rfl (fun ls hl => ?_)
                  refine lv_iload_n hx hb dX5_reaches_128 rfl (lv_at hl 5 rfl) ?_
                  refine lv_if_ne (tgt := 137) hx hb dX5_reaches_129 (by decide) (fun c_129 => ?_) (fun c_129 => ?_)
                  · skip
                    have c_129 : (q_any (nonS S t) i11) = true := bI_ne c_129
                    refine lv_iconst (v := 1) hx hb dX5_reaches_137 (by decide) ?_
                    refine lv_goto (tgt := 142) hx hb dX5_reaches_138 (by decide) ?_
                    refine lv_istore_n (lv' := [(3, .int 1), (2, .int ((q_acc (scoS S t) (extS S t) i11) + 0)), (7, .int 0), (6, .int 0), (5, .int (nI (136 + 15 * (t * 8 + i11)))), (4, .int (nI i11)), (0, .ref (d 0)), (1, .int (nI t))]) hx hb dX5_reaches_142 rfl hl (by decide) rfl (fun ls hl => ?_)
                    refine lv_iinc (v := nI (i11 + 1)) (lv' := [(4, .int (nI (i11 + 1))), (3, .int 1), (2, .int ((q_acc (scoS S t) (extS S t) i11) + 0)), (7, .int 0), (6, .int 0), (5, .int (nI (136 + 15 * (t * 8 + i11)))), (0, .ref (d 0)), (1, .int (nI t))]) hx hb dX5_reaches_143 hl (k := 5) rfl (nI_1 _) (by decide) rfl (fun ls hl => ?_)
                    refine lv_goto (tgt := 11) hx hb dX5_reaches_146 (by decide) ?_
                    exact ih_i11 (i11 + 1) 1 ((q_acc (scoS S t) (extS S t) i11) + 0) (by simp [q_acc, q_any, extS, mayS, nonS, bI, c_35, c_44, c_129]) (by simp [q_acc, q_any, extS, mayS, nonS, bI, c_35, c_44, c_129]) lt_i11 (by omega) ls (lv_sub hl [0, 1, 2, 6, 7] rfl)
                  · skip
                    have c_129 : (q_any (nonS S t) i11) = false := bI_eq c_129
                    refine lv_iload hx hb dX5_reaches_132 (lv_at hl 2 rfl) ?_
                    refine lv_if_eq (tgt := 141) hx hb dX5_reaches_134 (by decide) (fun c_134 => ?_) (fun c_134 => ?_)
                    · skip
                      refine lv_iconst (v := 0) hx hb dX5_reaches_141 (by decide) ?_
                      refine lv_istore_n (lv' := [(3, .int 0), (2, .int ((q_acc (scoS S t) (extS S t) i11) + 0)), (7, .int 0), (6, .int 0), (5, .int (nI (136 + 15 * (t * 8 + i11)))), (4, .int (nI i11)), (0, .ref (d 0)), (1, .int (nI t))]) hx hb dX5_reaches_142 rfl hl (by decide) rfl (fun ls hl => ?_)
                      refine lv_iinc (v := nI (i11 + 1)) (lv' := [(4, .int (nI (i11 + 1))), (3, .int 0), (2, .int ((q_acc (scoS S t) (extS S t) i11) + 0)), (7, .int 0), (6, .int 0), (5, .int (nI (136 + 15 * (t * 8 + i11)))), (0, .ref (d 0)), (1, .int (nI t))]) hx hb dX5_reaches_143 hl (k := 5) rfl (nI_1 _) (by decide) rfl (fun ls hl => ?_)
                      refine lv_goto (tgt := 11) hx hb dX5_reaches_146 (by decide) ?_
                      exact ih_i11 (i11 + 1) 0 ((q_acc (scoS S t) (extS S t) i11) + 0) (by simp [q_acc, q_any, extS, mayS, nonS, bI, c_35, c_44, c_129]) (by simp [q_acc, q_any, extS, mayS, nonS, bI, c_35, c_44, c_129]) lt_i11 (by omega) ls (lv_sub hl [0, 1, 2, 6, 7] rfl)
                    · skip
                      exact absurd c_134 (by decide)
              · skip
                have c_69 : (hasS S t i11) = true := bI_e1 c_69
                exact absurd (c_35.symm.trans c_69) (by decide)
          · skip
            have c_44 : (isOp S i11) = true := bI_ne c_44
            refine lv_iconst (v := 1) hx hb dX5_reaches_47 (by decide) ?_
            refine lv_goto (tgt := 52) hx hb dX5_reaches_48 (by decide) ?_
            refine lv_istore (lv' := [(6, .int 1), (5, .int (nI (136 + 15 * (t * 8 + i11)))), (4, .int (nI i11)), (3, .int (bI (q_any (nonS S t) i11))), (2, .int (q_acc (scoS S t) (extS S t) i11)), (0, .ref (d 0)), (1, .int (nI t))]) hx hb dX5_reaches_52 hl (by decide) rfl (fun ls hl => ?_)
            refine lv_iload hx hb dX5_reaches_54 (lv_at hl 0 rfl) ?_
            refine lv_if_ne (tgt := 84) hx hb dX5_reaches_56 (by decide) (fun c_56 => ?_) (fun c_56 => ?_)
            · skip
              refine lv_iconst (v := 1) hx hb dX5_reaches_84 (by decide) ?_
              refine lv_goto (tgt := 89) hx hb dX5_reaches_85 (by decide) ?_
              refine lv_istore (lv' := [(7, .int 1), (6, .int 1), (5, .int (nI (136 + 15 * (t * 8 + i11)))), (4, .int (nI i11)), (3, .int (bI (q_any (nonS S t) i11))), (2, .int (q_acc (scoS S t) (extS S t) i11)), (0, .ref (d 0)), (1, .int (nI t))]) hx hb dX5_reaches_89 hl (by decide) rfl (fun ls hl => ?_)
              refine lv_iload_n hx hb dX5_reaches_91 rfl (lv_at hl 5 rfl) ?_
              refine lv_iload hx hb dX5_reaches_92 (lv_at hl 0 rfl) ?_
              refine lv_if_ne (tgt := 101) hx hb dX5_reaches_94 (by decide) (fun c_94 => ?_) (fun c_94 => ?_)
              · skip
                refine lv_aload_n hx hb dX5_reaches_101 rfl (lv_at hl 6 rfl) ?_
                refine va_get (D := g.1) (ci := 4) (v := .ref (d 1)) (C := RX5) (T := TX5) (N := 7) hx hb hts hi_X5 hown hK hP 0 rfl rfl 0 (by decide) fl_7 (fun _ h9 => h9) rfl dX5_reaches_102 ?_
                refine lv_iload_n hx hb dX5_reaches_105 rfl (lv_at hl 7 rfl) ?_
                refine q_S (As := [.int (nI t)]) (rest := [.ref (d 1), .int (q_acc (scoS S t) (extS S t) i11)]) ⟨hx, hb, hml, hown, hts⟩ (c_X5_t l t ) (va_cwS 1 hts gX5_reaches_X5_t rfl rfl rfl (by decide +kernel) ⟨Nat.le_of_ble_eq_true rfl, Nat.le_of_ble_eq_true rfl⟩) q_Blind_t (fun _ _ _ => trivial) rfl hl.1 rfl (Nat.le_of_ble_eq_true rfl) dX5_reaches_106 (Nat.zero_le _) (Nat.zero_le _) ?_
                refine lv_iconst (v := 1) hx hb dX5_reaches_109 (by decide) ?_
                refine lv_iadd hx hb dX5_reaches_110 ?_
                refine q_reI (show (((nI (96 + 4 * t)) + 1) : Int32) = nI (96 + 4 * t + 1) from nI_add _ _) ?_
                refine q_iald (j := (96 + 4 * t + 1)) hx hb hK hP 1 0 rfl rfl (by omega) (by decide) dX5_reaches_111 ?_
                refine q_reI (show (m_s M (96 + 4 * t + 1) : Int32) = jkI (s_jok S t) from cp_jok hc (t := t) (by omega)) ?_
                refine lv_iload hx hb dX5_reaches_112 (lv_at hl 3 rfl) ?_
                refine lv_iconst (v := 1) hx hb dX5_reaches_114 (by decide) ?_
                refine lv_iadd hx hb dX5_reaches_115 ?_
                refine q_reI (show (((nI i11) + 1) : Int32) = nI (i11 + 1) from nI_add _ _) ?_
                refine lv_icmp_ne (tgt := 124) hx hb dX5_reaches_116 (by decide) (fun c_116 => ?_) (fun c_116 => ?_)
                · skip
                  have c_116 := jk_f (by omega) c_116
                  refine lv_bipush (v := 10) hx hb dX5_reaches_124 (by decide) ?_
                  refine lv_iadd hx hb dX5_reaches_126 ?_
                  refine lv_istore_n (lv' := [(2, .int ((q_acc (scoS S t) (extS S t) i11) + 10)), (7, .int 1), (6, .int 1), (5, .int (nI (136 + 15 * (t * 8 + i11)))), (4, .int (nI i11)), (3, .int (bI (q_any (nonS S t) i11))), (0, .ref (d 0)), (1, .int (nI t))]) hx hb dX5_reaches_127 rfl hl (by decide) rfl (fun ls hl => ?_)
                  refine lv_iload_n hx hb dX5_reaches_128 rfl (lv_at hl 5 rfl) ?_
                  refine lv_if_ne (tgt := 137) hx hb dX5_reaches_129 (by decide) (fun c_129 => ?_) (fun c_129 => ?_)
                  · skip
                    have c_129 : (q_any (nonS S t) i11) = true := bI_ne c_129
                    refine lv_iconst (v := 1) hx hb dX5_reaches_137 (by decide) ?_
                    refine lv_goto (tgt := 142) hx hb dX5_reaches_138 (by decide) ?_
                    refine lv_istore_n (lv' := [(3, .int 1), (2, .int ((q_acc (scoS S t) (extS S t) i11) + 10)), (7, .int 1), (6, .int 1), (5, .int (nI (136 + 15 * (t * 8 + i11)))), (4, .int (nI i11)), (0, .ref (d 0)), (1, .int (nI t))]) hx hb dX5_reaches_142 rfl hl (by decide) rfl (fun ls hl => ?_)
                    refine lv_iinc (v := nI (i11 + 1)) (lv' := [(4, .int (nI (i11 + 1))), (3, .int 1), (2, .int ((q_acc (scoS S t) (extS S t) i11) + 10)), (7, .int 1), (6, .int 1), (5, .int (nI (136 + 15 * (t * 8 + i11)))), (0, .ref (d 0)), (1, .int (nI t))]) hx hb dX5_reaches_143 hl (k := 5) rfl (nI_1 _) (by decide) rfl (fun ls hl => ?_)
                    refine lv_goto (tgt := 11) hx hb dX5_reaches_146 (by decide) ?_
                    exact ih_i11 (i11 + 1) 1 ((q_acc (scoS S t) (extS S t) i11) + 10) (by simp [q_acc, q_any, extS, mayS, nonS, bI, c_35, c_44, c_116, c_129]) (by simp [q_acc, q_any, extS, mayS, nonS, bI, c_35, c_44, c_116, c_129]) lt_i11 (by omega) ls (lv_sub hl [0, 1, 2, 6, 7] rfl)
                  · skip
                    have c_129 : (q_any (nonS S t) i11) = false := bI_eq c_129
                    refine lv_iload hx hb dX5_reaches_132 (lv_at hl 2 rfl) ?_
                    refine lv_if_eq (tgt := 141) hx hb dX5_reaches_134 (by decide) (fun c_134 => ?_) (fun c_134 => ?_)
                    · skip
                      exact absurd c_134 (by decide)
                    · skip
                      refine lv_iconst (v := 1) hx hb dX5_reaches_137 (by decide) ?_
                      refine lv_goto (tgt := 142) hx hb dX5_reaches_138 (by decide) ?_
                      refine lv_istore_n (lv' := [(3, .int 1), (2, .int ((q_acc (scoS S t) (extS S t) i11) + 10)), (7, .int 1), (6, .int 1), (5, .int (nI (136 + 15 * (t * 8 + i11)))), (4, .int (nI i11)), (0, .ref (d 0)), (1, .int (nI t))]) hx hb dX5_reaches_142 rfl hl (by decide) rfl (fun ls hl => ?_)
                      refine lv_iinc (v := nI (i11 + 1)) (lv' := [(4, .int (nI (i11 + 1))), (3, .int 1), (2, .int ((q_acc (scoS S t) (extS S t) i11) + 10)), (7, .int 1), (6, .int 1), (5, .int (nI (136 + 15 * (t * 8 + i11)))), (0, .ref (d 0)), (1, .int (nI t))]) hx hb dX5_reaches_143 hl (k := 5) rfl (nI_1 _) (by decide) rfl (fun ls hl => ?_)
                      refine lv_goto (tgt := 11) hx hb dX5_reaches_146 (by decide) ?_
                      exact ih_i11 (i11 + 1) 1 ((q_acc (scoS S t) (extS S t) i11) + 10) (by simp [q_acc, q_any, extS, mayS, nonS, bI, c_35, c_44, c_116, c_129]) (by simp [q_acc, q_any, extS, mayS, nonS, bI, c_35, c_44, c_116, c_129]) lt_i11 (by omega) ls (lv_sub hl [0, 1, 2, 6, 7] rfl)
                · skip
                  have c_116 := jk_t (ok_jok ho (t := t) (by omega)) (by omega) c_116
                  refine lv_bipush (v := 20) hx hb dX5_reaches_119 (by decide) ?_
                  refine lv_goto (tgt := 126) hx hb dX5_reaches_121 (by decide) ?_
                  refine lv_iadd hx hb dX5_reaches_126 ?_
                  refine lv_istore_n (lv' := [(2, .int ((q_acc (scoS S t) (extS S t) i11) + 20)), (7, .int 1), (6, .int 1), (5, .int (nI (136 + 15 * (t * 8 + i11)))), (4, .int (nI i11)), (3, .int (bI (q_any (nonS S t) i11))), (0, .ref (d 0)), (1, .int (nI t))]) hx hb dX5_reaches_127 rfl hl (by decide) rfl (fun ls hl => ?_)
                  refine lv_iload_n hx hb dX5_reaches_128 rfl (lv_at hl 5 rfl) ?_
                  refine lv_if_ne (tgt := 137) hx hb dX5_reaches_129 (by decide) (fun c_129 => ?_) (fun c_129 => ?_)
                  · skip
                    have c_129 : (q_any (nonS S t) i11) = true := bI_ne c_129
                    refine lv_iconst (v := 1) hx hb dX5_reaches_137 (by decide) ?_
                    refine lv_goto (tgt := 142) hx hb dX5_reaches_138 (by decide) ?_
                    refine lv_istore_n (lv' := [(3, .int 1), (2, .int ((q_acc (scoS S t) (extS S t) i11) + 20)), (7, .int 1), (6, .int 1), (5, .int (nI (136 + 15 * (t * 8 + i11)))), (4, .int (nI i11)), (0, .ref (d 0)), (1, .int (nI t))]) hx hb dX5_reaches_142 rfl hl (by decide) rfl (fun ls hl => ?_)
                    refine lv_iinc (v := nI (i11 + 1)) (lv' := [(4, .int (nI (i11 + 1))), (3, .int 1), (2, .int ((q_acc (scoS S t) (extS S t) i11) + 20)), (7, .int 1), (6, .int 1), (5, .int (nI (136 + 15 * (t * 8 + i11)))), (0, .ref (d 0)), (1, .int (nI t))]) hx hb dX5_reaches_143 hl (k := 5) rfl (nI_1 _) (by decide) rfl (fun ls hl => ?_)
                    refine lv_goto (tgt := 11) hx hb dX5_reaches_146 (by decide) ?_
                    exact ih_i11 (i11 + 1) 1 ((q_acc (scoS S t) (extS S t) i11) + 20) (by simp [q_acc, q_any, extS, mayS, nonS, bI, c_35, c_44, c_116, c_129]) (by simp [q_acc, q_any, extS, mayS, nonS, bI, c_35, c_44, c_116, c_129]) lt_i11 (by omega) ls (lv_sub hl [0, 1, 2, 6, 7] rfl)
                  · skip
                    have c_129 : (q_any (nonS S t) i11) = false := bI_eq c_129
                    refine lv_iload hx hb dX5_reaches_132 (lv_at hl 2 rfl) ?_
                    refine lv_if_eq (tgt := 141) hx hb dX5_reaches_134 (by decide) (fun c_134 => ?_) (fun c_134 => ?_)
                    · skip
                      exact absurd c_134 (by decide)
                    · skip
                      refine lv_iconst (v := 1) hx hb dX5_reaches_137 (by decide) ?_
                      refine lv_goto (tgt := 142) hx hb dX5_reaches_138 (by decide) ?_
                      refine lv_istore_n (lv' := [(3, .int 1), (2, .int ((q_acc (scoS S t) (extS S t) i11) + 20)), (7, .int 1), (6, .int 1), (5, .int (nI (136 + 15 * (t * 8 + i11)))), (4, .int (nI i11)), (0, .ref (d 0)), (1, .int (nI t))]) hx hb dX5_reaches_142 rfl hl (by decide) rfl (fun ls hl => ?_)
                      refine lv_iinc (v := nI (i11 + 1)) (lv' := [(4, .int (nI (i11 + 1))), (3, .int 1), (2, .int ((q_acc (scoS S t) (extS S t) i11) + 20)), (7, .int 1), (6, .int 1), (5, .int (nI (136 + 15 * (t * 8 + i11)))), (0, .ref (d 0)), (1, .int (nI t))]) hx hb dX5_reaches_143 hl (k := 5) rfl (nI_1 _) (by decide) rfl (fun ls hl => ?_)
                      refine lv_goto (tgt := 11) hx hb dX5_reaches_146 (by decide) ?_
                      exact ih_i11 (i11 + 1) 1 ((q_acc (scoS S t) (extS S t) i11) + 20) (by simp [q_acc, q_any, extS, mayS, nonS, bI, c_35, c_44, c_116, c_129]) (by simp [q_acc, q_any, extS, mayS, nonS, bI, c_35, c_44, c_116, c_129]) lt_i11 (by omega) ls (lv_sub hl [0, 1, 2, 6, 7] rfl)
              · skip
                exact absurd c_94 (by decide)
            · skip
              exact absurd c_56 (by decide)
  exact L_11 (8 + 1) 0 0 (scoS S t) (rfl) (rfl) (Nat.zero_le _) (by omega) ls (lv_sub hl [0, 1, 2, 3, 4] rfl)

set_option maxHeartbeats 4000000 in
set_option maxRecDepth 100000 in
theorem c_X5_isWrong (l : Launch) (g : q_G) (d : Nat → Nat) (M : q_MV) (S : q_St) (K : Nat) (hc : q_cp S (m_s M)) (ho : q_ok K S) (hK5 : K ≤ 512) (t : Nat) (r : Nat) (h1_ : t < 10) (h2_ : r < 8) : q_PM l yX5_isWrong wsX5_isWrong { frames := 2, cells := 0, slots := 0, locals := 46 } [.ref (d 0), .int (nI t), .int (nI r)] (q_B g (q_mdW g d M)) (.int (bI (wroS S t r))) := by
  refine q_pm (cc := cX5_isWrong) (maxL := 4) (ret := (some .boolean)) (by decide) rfl (Nat.le_of_ble_eq_true rfl) ?_
  intro p e s m args below meth c ls hx hb hml hown hts hr hlk hB hl
  obtain ⟨hP, hK, hN⟩ := hB
  have hn10 := ok_n ho
  have fl_7 := hts (.fieldLink RX5 7 "PubQuizzesModel" "s" "[I") (by decide +kernel)
  have hi_X5 : ∀ w ∈ u_ws RX5 TX5 7, w ∈ wsX5_isWrong := by decide +kernel
  have hl : lv_has ls 4 [(0, .ref (d 0)), (1, .int (nI t)), (2, .int (nI r))] := hl
  refine lv_iload_n hx hb dX5_isWrong_0 rfl (lv_at hl 1 rfl) ?_
  refine lv_iload_n hx hb dX5_isWrong_1 rfl (lv_at hl 2 rfl) ?_
  refine q_S (As := [.int (nI t), .int (nI r)]) (rest := []) ⟨hx, hb, hml, hown, hts⟩ (c_X5_h l t r ) (va_cwS 2 hts gX5_isWrong_X5_h rfl rfl rfl (by decide +kernel) ⟨Nat.le_of_ble_eq_true rfl, Nat.le_of_ble_eq_true rfl⟩) q_Blind_t (fun _ _ _ => trivial) rfl hl.1 rfl (Nat.le_of_ble_eq_true rfl) dX5_isWrong_2 (Nat.zero_le _) (Nat.zero_le _) ?_
  refine lv_istore_n (lv' := [(3, .int (nI (136 + 15 * (t * 8 + r)))), (0, .ref (d 0)), (1, .int (nI t)), (2, .int (nI r))]) hx hb dX5_isWrong_5 rfl hl (by decide) rfl (fun ls hl => ?_)
  refine lv_aload_n hx hb dX5_isWrong_6 rfl (lv_at hl 1 rfl) ?_
  refine va_get (D := g.1) (ci := 4) (v := .ref (d 1)) (C := RX5) (T := TX5) (N := 7) hx hb hts hi_X5 hown hK hP 0 rfl rfl 0 (by decide) fl_7 (fun _ h9 => h9) rfl dX5_isWrong_7 ?_
  refine lv_iload_n hx hb dX5_isWrong_10 rfl (lv_at hl 0 rfl) ?_
  refine lv_iconst (v := 1) hx hb dX5_isWrong_11 (by decide) ?_
  refine lv_iadd hx hb dX5_isWrong_12 ?_
  refine q_reI (show (((nI (136 + 15 * (t * 8 + r))) + 1) : Int32) = nI (136 + 15 * (t * 8 + r) + 1) from nI_add _ _) ?_
  refine q_iald (j := (136 + 15 * (t * 8 + r) + 1)) hx hb hK hP 1 0 rfl rfl (by omega) (by decide) dX5_isWrong_13 ?_
  refine q_reI (show (m_s M (136 + 15 * (t * 8 + r) + 1) : Int32) = bI (tldS S t r) from cp_tld hc (t := t) (r := r) (by omega) (by omega)) ?_
  refine lv_iconst (v := 1) hx hb dX5_isWrong_14 (by decide) ?_
  refine lv_icmp_ne (tgt := 50) hx hb dX5_isWrong_15 (by decide) (fun c_15 => ?_) (fun c_15 => ?_)
  · skip
    have c_15 : (tldS S t r) = false := bI_n1 c_15
    refine lv_iconst (v := 0) hx hb dX5_isWrong_50 (by decide) ?_
    exact q_zret hx hb hr hlk dX5_isWrong_51 (by simp [wroS, bI, c_15])
  · skip
    have c_15 : (tldS S t r) = true := bI_e1 c_15
    refine lv_aload_n hx hb dX5_isWrong_18 rfl (lv_at hl 1 rfl) ?_
    refine va_get (D := g.1) (ci := 4) (v := .ref (d 1)) (C := RX5) (T := TX5) (N := 7) hx hb hts hi_X5 hown hK hP 0 rfl rfl 0 (by decide) fl_7 (fun _ h9 => h9) rfl dX5_isWrong_19 ?_
    refine lv_iload_n hx hb dX5_isWrong_22 rfl (lv_at hl 0 rfl) ?_
    refine lv_iconst (v := 4) hx hb dX5_isWrong_23 (by decide) ?_
    refine lv_iadd hx hb dX5_isWrong_24 ?_
    refine q_reI (show (((nI (136 + 15 * (t * 8 + r))) + 4) : Int32) = nI (136 + 15 * (t * 8 + r) + 4) from nI_add _ _) ?_
    refine q_iald (j := (136 + 15 * (t * 8 + r) + 4)) hx hb hK hP 1 0 rfl rfl (by omega) (by decide) dX5_isWrong_25 ?_
    refine q_reI (show (m_s M (136 + 15 * (t * 8 + r) + 4) : Int32) = bI (lokS S t r) from cp_lok hc (t := t) (r := r) (by omega) (by omega)) ?_
    refine lv_if_ne (tgt := 50) hx hb dX5_isWrong_26 (by decide) (fun c_26 => ?_) (fun c_26 => ?_)
    · skip
      have c_26 : (lokS S t r) = true := bI_ne c_26
      refine lv_iconst (v := 0) hx hb dX5_isWrong_50 (by decide) ?_
      exact q_zret hx hb hr hlk dX5_isWrong_51 (by simp [wroS, bI, c_15, c_26])
    · skip
      have c_26 : (lokS S t r) = false := bI_eq c_26
      refine lv_aload_n hx hb dX5_isWrong_29 rfl (lv_at hl 1 rfl) ?_
      refine va_get (D := g.1) (ci := 4) (v := .ref (d 1)) (C := RX5) (T := TX5) (N := 7) hx hb hts hi_X5 hown hK hP 0 rfl rfl 0 (by decide) fl_7 (fun _ h9 => h9) rfl dX5_isWrong_30 ?_
      refine lv_iload_n hx hb dX5_isWrong_33 rfl (lv_at hl 0 rfl) ?_
      refine lv_iconst (v := 2) hx hb dX5_isWrong_34 (by decide) ?_
      refine lv_iadd hx hb dX5_isWrong_35 ?_
      refine q_reI (show (((nI (136 + 15 * (t * 8 + r))) + 2) : Int32) = nI (136 + 15 * (t * 8 + r) + 2) from nI_add _ _) ?_
      refine q_iald (j := (136 + 15 * (t * 8 + r) + 2)) hx hb hK hP 1 0 rfl rfl (by omega) (by decide) dX5_isWrong_36 ?_
      refine q_reI (show (m_s M (136 + 15 * (t * 8 + r) + 2) : Int32) = s_mar S (t * 8 + r) from cp_mar hc (t := t) (r := r) (by omega) (by omega) (by assumption)) ?_
      refine lv_aload_n hx hb dX5_isWrong_37 rfl (lv_at hl 1 rfl) ?_
      refine lv_iload_n hx hb dX5_isWrong_38 rfl (lv_at hl 2 rfl) ?_
      refine lv_iload_n hx hb dX5_isWrong_39 rfl (lv_at hl 3 rfl) ?_
      refine q_V (As := [.int (nI t), .int (nI r)]) (rest := [.int (s_mar S (t * 8 + r))]) ⟨hx, hb, hml, hown, hts⟩ (c_X5_trueMark l g d M S K hc ho hK5 t r (by omega) (by omega) (ok_th ho h1_ h2_ c_15) (ok_to ho h1_ h2_ c_15)) (cwV 2 hts gX5_isWrong_X5_trueMark rfl rfl rfl (by decide +kernel) ⟨Nat.le_of_ble_eq_true rfl, Nat.le_of_ble_eq_true rfl⟩) q_B_blind (va_recv hK hP (ci := 4) (q0 := 0) rfl rfl) (q_B_of hP hK hN) rfl hl.1 rfl (Nat.le_of_ble_eq_true rfl) dX5_isWrong_40 (Nat.zero_le _) (Nat.zero_le _) ?_
      refine lv_icmp_eq (tgt := 50) hx hb dX5_isWrong_43 (by decide) (fun c_43 => ?_) (fun c_43 => ?_)
      · skip
        refine lv_iconst (v := 0) hx hb dX5_isWrong_50 (by decide) ?_
        exact q_zret hx hb hr hlk dX5_isWrong_51 (by simp [wroS, bI, c_15, c_26, c_43])
      · skip
        refine lv_iconst (v := 1) hx hb dX5_isWrong_46 (by decide) ?_
        refine lv_goto (tgt := 51) hx hb dX5_isWrong_47 (by decide) ?_
        exact q_zret hx hb hr hlk dX5_isWrong_51 (by simp [wroS, bI, c_15, c_26, c_43])
