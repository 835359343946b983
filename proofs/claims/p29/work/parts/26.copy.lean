theorem q_cpy0 {f g : Nat → Int64} {n j : Nat} (h : j < n) : va_cpy f g 0 0 n j = f j := by
  unfold va_cpy
  rw [if_pos ⟨Nat.zero_le j, by omega⟩]
  congr 1
  omega

set_option maxHeartbeats 2000000 in
set_option maxRecDepth 100000 in
theorem c_X3_copy (l : Launch) (g : q_G) (a : Nat → Nat → Nat) (b : Nat → Nat) (i j : Nat) (S T : q_St) (hI : q_inj a b) (hi : i < 9) (hj : j < 9) (hij : i ≠ j) : Met l yX3_copy wsX3_copy { frames := 1, cells := 0, slots := 0, locals := 40 } (va_Pc [.ref (a i 0), .ref (a j 0)] (q_B g (q_stW g (a i) S ++ q_stW g (a j) T))) (q_QM g (q_two a i j) (q_stW g (a i) S ++ q_stW g (a j) S) (none)) 0 0 (q_two a i j) := by
  refine q_mm (cc := cX3_copy) (maxL := 2) (ret := none) (by decide) rfl (Nat.le_of_ble_eq_true rfl) ?_
  intro p e s m args below meth c ls hx hb hml hown hts hr hlk hnm hB hag hl
  obtain ⟨hP, hK, hN⟩ := hB
  have hS : va_S (q_two a i j) s.heap s.heap [] := va_S.rf
  have hP : va_P g.1 vwCl (q_stW g (a i) S ++ q_stW g (a j) T) s.heap := hP
  have hD : va_D (q_two a i j) (q_stW g (a i) S ++ q_stW g (a j) T) := q_two_D hI hi hj hij
  have fl_9 := hts (.fieldLink RX3 9 "PubQuizzes$State" "settings" "[I") (by decide +kernel)
  have fl_15 := hts (.fieldLink RX3 15 "PubQuizzes$State" "paid" "[I") (by decide +kernel)
  have fl_18 := hts (.fieldLink RX3 18 "PubQuizzes$State" "jokers" "[I") (by decide +kernel)
  have fl_21 := hts (.fieldLink RX3 21 "PubQuizzes$State" "fines" "[I") (by decide +kernel)
  have fl_24 := hts (.fieldLink RX3 24 "PubQuizzes$State" "guesses" "[I") (by decide +kernel)
  have fl_27 := hts (.fieldLink RX3 27 "PubQuizzes$State" "keys" "[J") (by decide +kernel)
  have fl_31 := hts (.fieldLink RX3 31 "PubQuizzes$State" "sheets" "[J") (by decide +kernel)
  have fl_34 := hts (.fieldLink RX3 34 "PubQuizzes$State" "marks" "[I") (by decide +kernel)
  have fl_37 := hts (.fieldLink RX3 37 "PubQuizzes$State" "markers" "[I") (by decide +kernel)
  have fl_40 := hts (.fieldLink RX3 40 "PubQuizzes$State" "looked" "[I") (by decide +kernel)
  have fl_43 := hts (.fieldLink RX3 43 "PubQuizzes$State" "truth" "I") (by decide +kernel)
  have fl_66 := hts (.fieldLink RX3 66 "PubQuizzes$State" "teams" "I") (by decide +kernel)
  have hi_X3 : ∀ w ∈ u_ws RX3 TX3 12, w ∈ wsX3_copy := by decide +kernel
  have hl : lv_has ls 2 [(0, .ref (a i 0)), (1, .ref (a j 0))] := hl
  refine lv_aload_n hx hb dX3_copy_0 rfl (lv_at hl 0 rfl) ?_
  refine lv_ifnull hx hb dX3_copy_1 ?_
  refine lv_aload_n hx hb dX3_copy_4 rfl (lv_at hl 1 rfl) ?_
  refine lv_ifnonnull (tgt := 9) hx hb dX3_copy_5 (by decide) ?_
  refine lv_aload_n hx hb dX3_copy_9 rfl (lv_at hl 0 rfl) ?_
  refine va_get (D := g.1) (ci := 2) (v := .ref (a i 1)) (C := RX3) (T := TX3) (N := 12) hx hb hts hi_X3 hown hK hP 0 rfl rfl 0 (by decide) fl_9 (fun _ h9 => h9) rfl dX3_copy_10 ?_
  refine lv_iconst (v := 0) hx hb dX3_copy_13 (by decide) ?_
  refine lv_aload_n hx hb dX3_copy_14 rfl (lv_at hl 1 rfl) ?_
  refine va_get (D := g.1) (ci := 2) (v := .ref (a j 1)) (C := RX3) (T := TX3) (N := 12) hx hb hts hi_X3 hown hK hP 11 rfl rfl 0 (by decide) fl_9 (fun _ h9 => h9) rfl dX3_copy_15 ?_
  refine lv_iconst (v := 0) hx hb dX3_copy_18 (by decide) ?_
  refine lv_iconst (v := 4) hx hb dX3_copy_19 (by decide) ?_
  refine q_cpi (N := 4) hx hb (hml.trans hl.1.symm) hown (hts (.methodLink RX3 60 arraycopyName) (by decide +kernel)) (hts (.native arraycopyName) (by decide +kernel)) (hts (.static arraycopyName) (by decide +kernel)) (hts (.initialized "java/lang/System") (by decide +kernel)) hK hP hD hS 1 12 0 rfl rfl rfl (by decide) (by decide) (by decide) (Nat.le_of_ble_eq_true rfl) (Nat.le_of_ble_eq_true rfl) dX3_copy_20 (fun H locs hP hS => ?_)
  have hP : va_P g.1 vwCl (q_stW g (a i) S ++ q_stW g (a j) (u_set T (va_cpy (s_set S) (s_set T) 0 0 4))) H := hP
  have hD : va_D (q_two a i j) (q_stW g (a i) S ++ q_stW g (a j) (u_set T (va_cpy (s_set S) (s_set T) 0 0 4))) := q_two_D hI hi hj hij
  refine lv_aload_n hx hb dX3_copy_23 rfl (lv_at hl 0 rfl) ?_
  refine va_get (D := g.1) (ci := 2) (v := .ref (a i 2)) (C := RX3) (T := TX3) (N := 12) hx hb hts hi_X3 hown hK hP 0 rfl rfl 1 (by decide) fl_15 (fun _ h9 => h9) rfl dX3_copy_24 ?_
  refine lv_iconst (v := 0) hx hb dX3_copy_27 (by decide) ?_
  refine lv_aload_n hx hb dX3_copy_28 rfl (lv_at hl 1 rfl) ?_
  refine va_get (D := g.1) (ci := 2) (v := .ref (a j 2)) (C := RX3) (T := TX3) (N := 12) hx hb hts hi_X3 hown hK hP 11 rfl rfl 1 (by decide) fl_15 (fun _ h9 => h9) rfl dX3_copy_29 ?_
  refine lv_iconst (v := 0) hx hb dX3_copy_32 (by decide) ?_
  refine lv_bipush (v := 10) hx hb dX3_copy_33 (by decide) ?_
  refine q_cpi (N := 10) hx hb (hml.trans hl.1.symm) hown (hts (.methodLink RX3 60 arraycopyName) (by decide +kernel)) (hts (.native arraycopyName) (by decide +kernel)) (hts (.static arraycopyName) (by decide +kernel)) (hts (.initialized "java/lang/System") (by decide +kernel)) hK hP hD hS 2 13 0 rfl rfl rfl (by decide) (by decide) (by decide) (Nat.le_of_ble_eq_true rfl) (Nat.le_of_ble_eq_true rfl) dX3_copy_35 (fun H locs hP hS => ?_)
  have hP : va_P g.1 vwCl (q_stW g (a i) S ++ q_stW g (a j) (u_paid (u_set T (va_cpy (s_set S) (s_set T) 0 0 4)) (va_cpy (s_paid S) (s_paid T) 0 0 10))) H := hP
  have hD : va_D (q_two a i j) (q_stW g (a i) S ++ q_stW g (a j) (u_paid (u_set T (va_cpy (s_set S) (s_set T) 0 0 4)) (va_cpy (s_paid S) (s_paid T) 0 0 10))) := q_two_D hI hi hj hij
  refine lv_aload_n hx hb dX3_copy_38 rfl (lv_at hl 0 rfl) ?_
  refine va_get (D := g.1) (ci := 2) (v := .ref (a i 3)) (C := RX3) (T := TX3) (N := 12) hx hb hts hi_X3 hown hK hP 0 rfl rfl 2 (by decide) fl_18 (fun _ h9 => h9) rfl dX3_copy_39 ?_
  refine lv_iconst (v := 0) hx hb dX3_copy_42 (by decide) ?_
  refine lv_aload_n hx hb dX3_copy_43 rfl (lv_at hl 1 rfl) ?_
  refine va_get (D := g.1) (ci := 2) (v := .ref (a j 3)) (C := RX3) (T := TX3) (N := 12) hx hb hts hi_X3 hown hK hP 11 rfl rfl 2 (by decide) fl_18 (fun _ h9 => h9) rfl dX3_copy_44 ?_
  refine lv_iconst (v := 0) hx hb dX3_copy_47 (by decide) ?_
  refine lv_bipush (v := 10) hx hb dX3_copy_48 (by decide) ?_
  refine q_cpi (N := 10) hx hb (hml.trans hl.1.symm) hown (hts (.methodLink RX3 60 arraycopyName) (by decide +kernel)) (hts (.native arraycopyName) (by decide +kernel)) (hts (.static arraycopyName) (by decide +kernel)) (hts (.initialized "java/lang/System") (by decide +kernel)) hK hP hD hS 3 14 0 rfl rfl rfl (by decide) (by decide) (by decide) (Nat.le_of_ble_eq_true rfl) (Nat.le_of_ble_eq_true rfl) dX3_copy_50 (fun H locs hP hS => ?_)
  have hP : va_P g.1 vwCl (q_stW g (a i) S ++ q_stW g (a j) (u_jok (u_paid (u_set T (va_cpy (s_set S) (s_set T) 0 0 4)) (va_cpy (s_paid S) (s_paid T) 0 0 10)) (va_cpy (s_jok S) (s_jok T) 0 0 10))) H := hP
  have hD : va_D (q_two a i j) (q_stW g (a i) S ++ q_stW g (a j) (u_jok (u_paid (u_set T (va_cpy (s_set S) (s_set T) 0 0 4)) (va_cpy (s_paid S) (s_paid T) 0 0 10)) (va_cpy (s_jok S) (s_jok T) 0 0 10))) := q_two_D hI hi hj hij
  refine lv_aload_n hx hb dX3_copy_53 rfl (lv_at hl 0 rfl) ?_
  refine va_get (D := g.1) (ci := 2) (v := .ref (a i 4)) (C := RX3) (T := TX3) (N := 12) hx hb hts hi_X3 hown hK hP 0 rfl rfl 3 (by decide) fl_21 (fun _ h9 => h9) rfl dX3_copy_54 ?_
  refine lv_iconst (v := 0) hx hb dX3_copy_57 (by decide) ?_
  refine lv_aload_n hx hb dX3_copy_58 rfl (lv_at hl 1 rfl) ?_
  refine va_get (D := g.1) (ci := 2) (v := .ref (a j 4)) (C := RX3) (T := TX3) (N := 12) hx hb hts hi_X3 hown hK hP 11 rfl rfl 3 (by decide) fl_21 (fun _ h9 => h9) rfl dX3_copy_59 ?_
  refine lv_iconst (v := 0) hx hb dX3_copy_62 (by decide) ?_
  refine lv_bipush (v := 10) hx hb dX3_copy_63 (by decide) ?_
  refine q_cpi (N := 10) hx hb (hml.trans hl.1.symm) hown (hts (.methodLink RX3 60 arraycopyName) (by decide +kernel)) (hts (.native arraycopyName) (by decide +kernel)) (hts (.static arraycopyName) (by decide +kernel)) (hts (.initialized "java/lang/System") (by decide +kernel)) hK hP hD hS 4 15 0 rfl rfl rfl (by decide) (by decide) (by decide) (Nat.le_of_ble_eq_true rfl) (Nat.le_of_ble_eq_true rfl) dX3_copy_65 (fun H locs hP hS => ?_)
  have hP : va_P g.1 vwCl (q_stW g (a i) S ++ q_stW g (a j) (u_fin (u_jok (u_paid (u_set T (va_cpy (s_set S) (s_set T) 0 0 4)) (va_cpy (s_paid S) (s_paid T) 0 0 10)) (va_cpy (s_jok S) (s_jok T) 0 0 10)) (va_cpy (s_fin S) (s_fin T) 0 0 10))) H := hP
  have hD : va_D (q_two a i j) (q_stW g (a i) S ++ q_stW g (a j) (u_fin (u_jok (u_paid (u_set T (va_cpy (s_set S) (s_set T) 0 0 4)) (va_cpy (s_paid S) (s_paid T) 0 0 10)) (va_cpy (s_jok S) (s_jok T) 0 0 10)) (va_cpy (s_fin S) (s_fin T) 0 0 10))) := q_two_D hI hi hj hij
  refine lv_aload_n hx hb dX3_copy_68 rfl (lv_at hl 0 rfl) ?_
  refine va_get (D := g.1) (ci := 2) (v := .ref (a i 5)) (C := RX3) (T := TX3) (N := 12) hx hb hts hi_X3 hown hK hP 0 rfl rfl 4 (by decide) fl_24 (fun _ h9 => h9) rfl dX3_copy_69 ?_
  refine lv_iconst (v := 0) hx hb dX3_copy_72 (by decide) ?_
  refine lv_aload_n hx hb dX3_copy_73 rfl (lv_at hl 1 rfl) ?_
  refine va_get (D := g.1) (ci := 2) (v := .ref (a j 5)) (C := RX3) (T := TX3) (N := 12) hx hb hts hi_X3 hown hK hP 11 rfl rfl 4 (by decide) fl_24 (fun _ h9 => h9) rfl dX3_copy_74 ?_
  refine lv_iconst (v := 0) hx hb dX3_copy_77 (by decide) ?_
  refine lv_bipush (v := 10) hx hb dX3_copy_78 (by decide) ?_
  refine q_cpi (N := 10) hx hb (hml.trans hl.1.symm) hown (hts (.methodLink RX3 60 arraycopyName) (by decide +kernel)) (hts (.native arraycopyName) (by decide +kernel)) (hts (.static arraycopyName) (by decide +kernel)) (hts (.initialized "java/lang/System") (by decide +kernel)) hK hP hD hS 5 16 0 rfl rfl rfl (by decide) (by decide) (by decide) (Nat.le_of_ble_eq_true rfl) (Nat.le_of_ble_eq_true rfl) dX3_copy_80 (fun H locs hP hS => ?_)
  have hP : va_P g.1 vwCl (q_stW g (a i) S ++ q_stW g (a j) (u_gue (u_fin (u_jok (u_paid (u_set T (va_cpy (s_set S) (s_set T) 0 0 4)) (va_cpy (s_paid S) (s_paid T) 0 0 10)) (va_cpy (s_jok S) (s_jok T) 0 0 10)) (va_cpy (s_fin S) (s_fin T) 0 0 10)) (va_cpy (s_gue S) (s_gue T) 0 0 10))) H := hP
  have hD : va_D (q_two a i j) (q_stW g (a i) S ++ q_stW g (a j) (u_gue (u_fin (u_jok (u_paid (u_set T (va_cpy (s_set S) (s_set T) 0 0 4)) (va_cpy (s_paid S) (s_paid T) 0 0 10)) (va_cpy (s_jok S) (s_jok T) 0 0 10)) (va_cpy (s_fin S) (s_fin T) 0 0 10)) (va_cpy (s_gue S) (s_gue T) 0 0 10))) := q_two_D hI hi hj hij
  refine lv_aload_n hx hb dX3_copy_83 rfl (lv_at hl 0 rfl) ?_
  refine va_get (D := g.1) (ci := 2) (v := .ref (a i 6)) (C := RX3) (T := TX3) (N := 12) hx hb hts hi_X3 hown hK hP 0 rfl rfl 5 (by decide) fl_27 (fun _ h9 => h9) rfl dX3_copy_84 ?_
  refine lv_iconst (v := 0) hx hb dX3_copy_87 (by decide) ?_
  refine lv_aload_n hx hb dX3_copy_88 rfl (lv_at hl 1 rfl) ?_
  refine va_get (D := g.1) (ci := 2) (v := .ref (a j 6)) (C := RX3) (T := TX3) (N := 12) hx hb hts hi_X3 hown hK hP 11 rfl rfl 5 (by decide) fl_27 (fun _ h9 => h9) rfl dX3_copy_89 ?_
  refine lv_iconst (v := 0) hx hb dX3_copy_92 (by decide) ?_
  refine lv_bipush (v := 8) hx hb dX3_copy_93 (by decide) ?_
  refine q_cpl (N := 8) hx hb (hml.trans hl.1.symm) hown (hts (.methodLink RX3 60 arraycopyName) (by decide +kernel)) (hts (.native arraycopyName) (by decide +kernel)) (hts (.static arraycopyName) (by decide +kernel)) (hts (.initialized "java/lang/System") (by decide +kernel)) hK hP hD hS 6 17 1 rfl rfl rfl (by decide) (by decide) (by decide) (Nat.le_of_ble_eq_true rfl) (Nat.le_of_ble_eq_true rfl) dX3_copy_95 (fun H locs hP hS => ?_)
  have hP : va_P g.1 vwCl (q_stW g (a i) S ++ q_stW g (a j) (u_key (u_gue (u_fin (u_jok (u_paid (u_set T (va_cpy (s_set S) (s_set T) 0 0 4)) (va_cpy (s_paid S) (s_paid T) 0 0 10)) (va_cpy (s_jok S) (s_jok T) 0 0 10)) (va_cpy (s_fin S) (s_fin T) 0 0 10)) (va_cpy (s_gue S) (s_gue T) 0 0 10)) (va_cpy (s_key S) (s_key T) 0 0 8))) H := hP
  have hD : va_D (q_two a i j) (q_stW g (a i) S ++ q_stW g (a j) (u_key (u_gue (u_fin (u_jok (u_paid (u_set T (va_cpy (s_set S) (s_set T) 0 0 4)) (va_cpy (s_paid S) (s_paid T) 0 0 10)) (va_cpy (s_jok S) (s_jok T) 0 0 10)) (va_cpy (s_fin S) (s_fin T) 0 0 10)) (va_cpy (s_gue S) (s_gue T) 0 0 10)) (va_cpy (s_key S) (s_key T) 0 0 8))) := q_two_D hI hi hj hij
  refine lv_aload_n hx hb dX3_copy_98 rfl (lv_at hl 0 rfl) ?_
  refine va_get (D := g.1) (ci := 2) (v := .ref (a i 7)) (C := RX3) (T := TX3) (N := 12) hx hb hts hi_X3 hown hK hP 0 rfl rfl 6 (by decide) fl_31 (fun _ h9 => h9) rfl dX3_copy_99 ?_
  refine lv_iconst (v := 0) hx hb dX3_copy_102 (by decide) ?_
  refine lv_aload_n hx hb dX3_copy_103 rfl (lv_at hl 1 rfl) ?_
  refine va_get (D := g.1) (ci := 2) (v := .ref (a j 7)) (C := RX3) (T := TX3) (N := 12) hx hb hts hi_X3 hown hK hP 11 rfl rfl 6 (by decide) fl_31 (fun _ h9 => h9) rfl dX3_copy_104 ?_
  refine lv_iconst (v := 0) hx hb dX3_copy_107 (by decide) ?_
  refine lv_bipush (v := 80) hx hb dX3_copy_108 (by decide) ?_
  refine q_cpl (N := 80) hx hb (hml.trans hl.1.symm) hown (hts (.methodLink RX3 60 arraycopyName) (by decide +kernel)) (hts (.native arraycopyName) (by decide +kernel)) (hts (.static arraycopyName) (by decide +kernel)) (hts (.initialized "java/lang/System") (by decide +kernel)) hK hP hD hS 7 18 1 rfl rfl rfl (by decide) (by decide) (by decide) (Nat.le_of_ble_eq_true rfl) (Nat.le_of_ble_eq_true rfl) dX3_copy_110 (fun H locs hP hS => ?_)
  have hP : va_P g.1 vwCl (q_stW g (a i) S ++ q_stW g (a j) (u_she (u_key (u_gue (u_fin (u_jok (u_paid (u_set T (va_cpy (s_set S) (s_set T) 0 0 4)) (va_cpy (s_paid S) (s_paid T) 0 0 10)) (va_cpy (s_jok S) (s_jok T) 0 0 10)) (va_cpy (s_fin S) (s_fin T) 0 0 10)) (va_cpy (s_gue S) (s_gue T) 0 0 10)) (va_cpy (s_key S) (s_key T) 0 0 8)) (va_cpy (s_she S) (s_she T) 0 0 80))) H := hP
  have hD : va_D (q_two a i j) (q_stW g (a i) S ++ q_stW g (a j) (u_she (u_key (u_gue (u_fin (u_jok (u_paid (u_set T (va_cpy (s_set S) (s_set T) 0 0 4)) (va_cpy (s_paid S) (s_paid T) 0 0 10)) (va_cpy (s_jok S) (s_jok T) 0 0 10)) (va_cpy (s_fin S) (s_fin T) 0 0 10)) (va_cpy (s_gue S) (s_gue T) 0 0 10)) (va_cpy (s_key S) (s_key T) 0 0 8)) (va_cpy (s_she S) (s_she T) 0 0 80))) := q_two_D hI hi hj hij
  refine lv_aload_n hx hb dX3_copy_113 rfl (lv_at hl 0 rfl) ?_
  refine va_get (D := g.1) (ci := 2) (v := .ref (a i 8)) (C := RX3) (T := TX3) (N := 12) hx hb hts hi_X3 hown hK hP 0 rfl rfl 7 (by decide) fl_34 (fun _ h9 => h9) rfl dX3_copy_114 ?_
  refine lv_iconst (v := 0) hx hb dX3_copy_117 (by decide) ?_
  refine lv_aload_n hx hb dX3_copy_118 rfl (lv_at hl 1 rfl) ?_
  refine va_get (D := g.1) (ci := 2) (v := .ref (a j 8)) (C := RX3) (T := TX3) (N := 12) hx hb hts hi_X3 hown hK hP 11 rfl rfl 7 (by decide) fl_34 (fun _ h9 => h9) rfl dX3_copy_119 ?_
  refine lv_iconst (v := 0) hx hb dX3_copy_122 (by decide) ?_
  refine lv_bipush (v := 80) hx hb dX3_copy_123 (by decide) ?_
  refine q_cpi (N := 80) hx hb (hml.trans hl.1.symm) hown (hts (.methodLink RX3 60 arraycopyName) (by decide +kernel)) (hts (.native arraycopyName) (by decide +kernel)) (hts (.static arraycopyName) (by decide +kernel)) (hts (.initialized "java/lang/System") (by decide +kernel)) hK hP hD hS 8 19 0 rfl rfl rfl (by decide) (by decide) (by decide) (Nat.le_of_ble_eq_true rfl) (Nat.le_of_ble_eq_true rfl) dX3_copy_125 (fun H locs hP hS => ?_)
  have hP : va_P g.1 vwCl (q_stW g (a i) S ++ q_stW g (a j) (u_mar (u_she (u_key (u_gue (u_fin (u_jok (u_paid (u_set T (va_cpy (s_set S) (s_set T) 0 0 4)) (va_cpy (s_paid S) (s_paid T) 0 0 10)) (va_cpy (s_jok S) (s_jok T) 0 0 10)) (va_cpy (s_fin S) (s_fin T) 0 0 10)) (va_cpy (s_gue S) (s_gue T) 0 0 10)) (va_cpy (s_key S) (s_key T) 0 0 8)) (va_cpy (s_she S) (s_she T) 0 0 80)) (va_cpy (s_mar S) (s_mar T) 0 0 80))) H := hP
  have hD : va_D (q_two a i j) (q_stW g (a i) S ++ q_stW g (a j) (u_mar (u_she (u_key (u_gue (u_fin (u_jok (u_paid (u_set T (va_cpy (s_set S) (s_set T) 0 0 4)) (va_cpy (s_paid S) (s_paid T) 0 0 10)) (va_cpy (s_jok S) (s_jok T) 0 0 10)) (va_cpy (s_fin S) (s_fin T) 0 0 10)) (va_cpy (s_gue S) (s_gue T) 0 0 10)) (va_cpy (s_key S) (s_key T) 0 0 8)) (va_cpy (s_she S) (s_she T) 0 0 80)) (va_cpy (s_mar S) (s_mar T) 0 0 80))) := q_two_D hI hi hj hij
  refine lv_aload_n hx hb dX3_copy_128 rfl (lv_at hl 0 rfl) ?_
  refine va_get (D := g.1) (ci := 2) (v := .ref (a i 9)) (C := RX3) (T := TX3) (N := 12) hx hb hts hi_X3 hown hK hP 0 rfl rfl 8 (by decide) fl_37 (fun _ h9 => h9) rfl dX3_copy_129 ?_
  refine lv_iconst (v := 0) hx hb dX3_copy_132 (by decide) ?_
  refine lv_aload_n hx hb dX3_copy_133 rfl (lv_at hl 1 rfl) ?_
  refine va_get (D := g.1) (ci := 2) (v := .ref (a j 9)) (C := RX3) (T := TX3) (N := 12) hx hb hts hi_X3 hown hK hP 11 rfl rfl 8 (by decide) fl_37 (fun _ h9 => h9) rfl dX3_copy_134 ?_
  refine lv_iconst (v := 0) hx hb dX3_copy_137 (by decide) ?_
  refine lv_bipush (v := 80) hx hb dX3_copy_138 (by decide) ?_
  refine q_cpi (N := 80) hx hb (hml.trans hl.1.symm) hown (hts (.methodLink RX3 60 arraycopyName) (by decide +kernel)) (hts (.native arraycopyName) (by decide +kernel)) (hts (.static arraycopyName) (by decide +kernel)) (hts (.initialized "java/lang/System") (by decide +kernel)) hK hP hD hS 9 20 0 rfl rfl rfl (by decide) (by decide) (by decide) (Nat.le_of_ble_eq_true rfl) (Nat.le_of_ble_eq_true rfl) dX3_copy_140 (fun H locs hP hS => ?_)
  have hP : va_P g.1 vwCl (q_stW g (a i) S ++ q_stW g (a j) (u_mkr (u_mar (u_she (u_key (u_gue (u_fin (u_jok (u_paid (u_set T (va_cpy (s_set S) (s_set T) 0 0 4)) (va_cpy (s_paid S) (s_paid T) 0 0 10)) (va_cpy (s_jok S) (s_jok T) 0 0 10)) (va_cpy (s_fin S) (s_fin T) 0 0 10)) (va_cpy (s_gue S) (s_gue T) 0 0 10)) (va_cpy (s_key S) (s_key T) 0 0 8)) (va_cpy (s_she S) (s_she T) 0 0 80)) (va_cpy (s_mar S) (s_mar T) 0 0 80)) (va_cpy (s_mkr S) (s_mkr T) 0 0 80))) H := hP
  have hD : va_D (q_two a i j) (q_stW g (a i) S ++ q_stW g (a j) (u_mkr (u_mar (u_she (u_key (u_gue (u_fin (u_jok (u_paid (u_set T (va_cpy (s_set S) (s_set T) 0 0 4)) (va_cpy (s_paid S) (s_paid T) 0 0 10)) (va_cpy (s_jok S) (s_jok T) 0 0 10)) (va_cpy (s_fin S) (s_fin T) 0 0 10)) (va_cpy (s_gue S) (s_gue T) 0 0 10)) (va_cpy (s_key S) (s_key T) 0 0 8)) (va_cpy (s_she S) (s_she T) 0 0 80)) (va_cpy (s_mar S) (s_mar T) 0 0 80)) (va_cpy (s_mkr S) (s_mkr T) 0 0 80))) := q_two_D hI hi hj hij
  refine lv_aload_n hx hb dX3_copy_143 rfl (lv_at hl 0 rfl) ?_
  refine va_get (D := g.1) (ci := 2) (v := .ref (a i 10)) (C := RX3) (T := TX3) (N := 12) hx hb hts hi_X3 hown hK hP 0 rfl rfl 9 (by decide) fl_40 (fun _ h9 => h9) rfl dX3_copy_144 ?_
  refine lv_iconst (v := 0) hx hb dX3_copy_147 (by decide) ?_
  refine lv_aload_n hx hb dX3_copy_148 rfl (lv_at hl 1 rfl) ?_
  refine va_get (D := g.1) (ci := 2) (v := .ref (a j 10)) (C := RX3) (T := TX3) (N := 12) hx hb hts hi_X3 hown hK hP 11 rfl rfl 9 (by decide) fl_40 (fun _ h9 => h9) rfl dX3_copy_149 ?_
  refine lv_iconst (v := 0) hx hb dX3_copy_152 (by decide) ?_
  refine lv_bipush (v := 8) hx hb dX3_copy_153 (by decide) ?_
  refine q_cpi (N := 8) hx hb (hml.trans hl.1.symm) hown (hts (.methodLink RX3 60 arraycopyName) (by decide +kernel)) (hts (.native arraycopyName) (by decide +kernel)) (hts (.static arraycopyName) (by decide +kernel)) (hts (.initialized "java/lang/System") (by decide +kernel)) hK hP hD hS 10 21 0 rfl rfl rfl (by decide) (by decide) (by decide) (Nat.le_of_ble_eq_true rfl) (Nat.le_of_ble_eq_true rfl) dX3_copy_155 (fun H locs hP hS => ?_)
  have hP : va_P g.1 vwCl (q_stW g (a i) S ++ q_stW g (a j) (u_loo (u_mkr (u_mar (u_she (u_key (u_gue (u_fin (u_jok (u_paid (u_set T (va_cpy (s_set S) (s_set T) 0 0 4)) (va_cpy (s_paid S) (s_paid T) 0 0 10)) (va_cpy (s_jok S) (s_jok T) 0 0 10)) (va_cpy (s_fin S) (s_fin T) 0 0 10)) (va_cpy (s_gue S) (s_gue T) 0 0 10)) (va_cpy (s_key S) (s_key T) 0 0 8)) (va_cpy (s_she S) (s_she T) 0 0 80)) (va_cpy (s_mar S) (s_mar T) 0 0 80)) (va_cpy (s_mkr S) (s_mkr T) 0 0 80)) (va_cpy (s_loo S) (s_loo T) 0 0 8))) H := hP
  have hD : va_D (q_two a i j) (q_stW g (a i) S ++ q_stW g (a j) (u_loo (u_mkr (u_mar (u_she (u_key (u_gue (u_fin (u_jok (u_paid (u_set T (va_cpy (s_set S) (s_set T) 0 0 4)) (va_cpy (s_paid S) (s_paid T) 0 0 10)) (va_cpy (s_jok S) (s_jok T) 0 0 10)) (va_cpy (s_fin S) (s_fin T) 0 0 10)) (va_cpy (s_gue S) (s_gue T) 0 0 10)) (va_cpy (s_key S) (s_key T) 0 0 8)) (va_cpy (s_she S) (s_she T) 0 0 80)) (va_cpy (s_mar S) (s_mar T) 0 0 80)) (va_cpy (s_mkr S) (s_mkr T) 0 0 80)) (va_cpy (s_loo S) (s_loo T) 0 0 8))) := q_two_D hI hi hj hij
  refine lv_aload_n hx hb dX3_copy_158 rfl (lv_at hl 1 rfl) ?_
  refine lv_aload_n hx hb dX3_copy_159 rfl (lv_at hl 0 rfl) ?_
  refine va_get (D := g.1) (ci := 2) (v := .int (nI (s_n S))) (C := RX3) (T := TX3) (N := 12) hx hb hts hi_X3 hown hK hP 0 rfl rfl 10 (by decide) fl_66 (fun _ h9 => h9) rfl dX3_copy_160 ?_
  refine va_put (D := g.1) (ci := 2) (v := .int (nI (s_n S))) (ty := .int) (C := RX3) (T := TX3) (N := 12) hx hb hts hi_X3 tyX3 tyX3_ok nmX3 hown hK hP hD hS 11 rfl rfl 10 (by decide) fl_66 (fun _ h9 => h9) rfl (by decide +kernel) rfl rfl (Nat.le_of_ble_eq_true rfl) dX3_copy_163 (fun H locs hP _ hS => ?_)
  have hP : va_P g.1 vwCl (q_stW g (a i) S ++ q_stW g (a j) (u_n (u_loo (u_mkr (u_mar (u_she (u_key (u_gue (u_fin (u_jok (u_paid (u_set T (va_cpy (s_set S) (s_set T) 0 0 4)) (va_cpy (s_paid S) (s_paid T) 0 0 10)) (va_cpy (s_jok S) (s_jok T) 0 0 10)) (va_cpy (s_fin S) (s_fin T) 0 0 10)) (va_cpy (s_gue S) (s_gue T) 0 0 10)) (va_cpy (s_key S) (s_key T) 0 0 8)) (va_cpy (s_she S) (s_she T) 0 0 80)) (va_cpy (s_mar S) (s_mar T) 0 0 80)) (va_cpy (s_mkr S) (s_mkr T) 0 0 80)) (va_cpy (s_loo S) (s_loo T) 0 0 8)) (s_n S))) H := hP
  have hD : va_D (q_two a i j) (q_stW g (a i) S ++ q_stW g (a j) (u_n (u_loo (u_mkr (u_mar (u_she (u_key (u_gue (u_fin (u_jok (u_paid (u_set T (va_cpy (s_set S) (s_set T) 0 0 4)) (va_cpy (s_paid S) (s_paid T) 0 0 10)) (va_cpy (s_jok S) (s_jok T) 0 0 10)) (va_cpy (s_fin S) (s_fin T) 0 0 10)) (va_cpy (s_gue S) (s_gue T) 0 0 10)) (va_cpy (s_key S) (s_key T) 0 0 8)) (va_cpy (s_she S) (s_she T) 0 0 80)) (va_cpy (s_mar S) (s_mar T) 0 0 80)) (va_cpy (s_mkr S) (s_mkr T) 0 0 80)) (va_cpy (s_loo S) (s_loo T) 0 0 8)) (s_n S))) := q_two_D hI hi hj hij
  refine lv_aload_n hx hb dX3_copy_166 rfl (lv_at hl 1 rfl) ?_
  refine lv_aload_n hx hb dX3_copy_167 rfl (lv_at hl 0 rfl) ?_
  refine va_get (D := g.1) (ci := 2) (v := .int (s_tru S)) (C := RX3) (T := TX3) (N := 12) hx hb hts hi_X3 hown hK hP 0 rfl rfl 11 (by decide) fl_43 (fun _ h9 => h9) rfl dX3_copy_168 ?_
  refine va_put (D := g.1) (ci := 2) (v := .int (s_tru S)) (ty := .int) (C := RX3) (T := TX3) (N := 12) hx hb hts hi_X3 tyX3 tyX3_ok nmX3 hown hK hP hD hS 11 rfl rfl 11 (by decide) fl_43 (fun _ h9 => h9) rfl (by decide +kernel) rfl rfl (Nat.le_of_ble_eq_true rfl) dX3_copy_171 (fun H locs hP _ hS => ?_)
  have hP : va_P g.1 vwCl (q_stW g (a i) S ++ q_stW g (a j) (u_tru (u_n (u_loo (u_mkr (u_mar (u_she (u_key (u_gue (u_fin (u_jok (u_paid (u_set T (va_cpy (s_set S) (s_set T) 0 0 4)) (va_cpy (s_paid S) (s_paid T) 0 0 10)) (va_cpy (s_jok S) (s_jok T) 0 0 10)) (va_cpy (s_fin S) (s_fin T) 0 0 10)) (va_cpy (s_gue S) (s_gue T) 0 0 10)) (va_cpy (s_key S) (s_key T) 0 0 8)) (va_cpy (s_she S) (s_she T) 0 0 80)) (va_cpy (s_mar S) (s_mar T) 0 0 80)) (va_cpy (s_mkr S) (s_mkr T) 0 0 80)) (va_cpy (s_loo S) (s_loo T) 0 0 8)) (s_n S)) (s_tru S))) H := hP
  have hD : va_D (q_two a i j) (q_stW g (a i) S ++ q_stW g (a j) (u_tru (u_n (u_loo (u_mkr (u_mar (u_she (u_key (u_gue (u_fin (u_jok (u_paid (u_set T (va_cpy (s_set S) (s_set T) 0 0 4)) (va_cpy (s_paid S) (s_paid T) 0 0 10)) (va_cpy (s_jok S) (s_jok T) 0 0 10)) (va_cpy (s_fin S) (s_fin T) 0 0 10)) (va_cpy (s_gue S) (s_gue T) 0 0 10)) (va_cpy (s_key S) (s_key T) 0 0 8)) (va_cpy (s_she S) (s_she T) 0 0 80)) (va_cpy (s_mar S) (s_mar T) 0 0 80)) (va_cpy (s_mkr S) (s_mkr T) 0 0 80)) (va_cpy (s_loo S) (s_loo T) 0 0 8)) (s_n S)) (s_tru S))) := q_two_D hI hi hj hij
  have hP4 := q_P_app.mp hP
  have hP5 : va_P g.1 vwCl (q_stW g (a j) S) H := by
    refine q_st_eqv ?_ hP4.2
    exact ⟨fun k hk => sb_cpy0 hk, fun k hk => sb_cpy0 hk, fun k hk => sb_cpy0 hk, fun k hk => sb_cpy0 hk, fun k hk => sb_cpy0 hk, fun k hk => q_cpy0 hk, fun k hk => q_cpy0 hk, fun k hk => sb_cpy0 hk, fun k hk => sb_cpy0 hk, fun k hk => sb_cpy0 hk, rfl, rfl⟩
  have hP : va_P g.1 vwCl (q_stW g (a i) S ++ q_stW g (a j) S) H := q_P_app.mpr ⟨hP4.1, hP5⟩
  exact q_mvret hx hb hr hlk dX3_copy_174 hP hS (rfl)

set_option maxHeartbeats 4000000 in
set_option maxRecDepth 100000 in
theorem c_X0_length (l : Launch) (g : q_G) (u w k n : Nat) : q_PM l yX0_length wsX0_length { frames := 0, cells := 0, slots := 0, locals := 0 } [.ref u] (q_B g ([(u, .inr (0, [.ref w, .int (nI k), .int (nI n)]))])) (.int (nI n)) := by
  refine q_pm (cc := cX0_length) (maxL := 1) (ret := (some .int)) (by decide) rfl (Nat.le_of_ble_eq_true rfl) ?_
  intro p e s m args below meth c ls hx hb hml hown hts hr hlk hB hl
  obtain ⟨hP, hK, hN⟩ := hB
  have fl_16 := hts (.fieldLink RX0 16 "PubQuizzes$History" "length" "I") (by decide +kernel)
  have hi_X0 : ∀ w ∈ u_ws RX0 TX0 3, w ∈ wsX0_length := by decide +kernel
  have hl : lv_has ls 1 [(0, .ref u)] := hl
  refine lv_aload_n hx hb dX0_length_0 rfl (lv_at hl 0 rfl) ?_
  refine va_get (D := g.1) (ci := 0) (v := .int (nI n)) (C := RX0) (T := TX0) (N := 3) hx hb hts hi_X0 hown hK hP 0 rfl rfl 2 (by decide) fl_16 (fun _ h9 => h9) rfl dX0_length_1 ?_
  exact q_iret hx hb hr hlk dX0_length_4 (rfl)
