set_option maxHeartbeats 4000000 in
set_option maxRecDepth 100000 in
theorem c_X4_indexOf (l : Launch) (t : Nat) (r : Nat) : q_PM l yX4_indexOf wsX4_indexOf { frames := 0, cells := 0, slots := 0, locals := 0 } [.int (nI t), .int (nI r)] (fun _ => True) (.int (nI (t * 8 + r))) := by
  refine q_pm (cc := cX4_indexOf) (maxL := 2) (ret := (some .int)) (by decide) rfl (Nat.le_of_ble_eq_true rfl) ?_
  intro p e s m args below meth c ls hx hb hml hown hts hr hlk _ hl
  have hl : lv_has ls 2 [(0, .int (nI t)), (1, .int (nI r))] := hl
  refine lv_iload_n hx hb dX4_indexOf_0 rfl (lv_at hl 0 rfl) ?_
  refine lv_bipush (v := 8) hx hb dX4_indexOf_1 (by decide) ?_
  refine lv_imul hx hb dX4_indexOf_3 ?_
  refine lv_iload_n hx hb dX4_indexOf_4 rfl (lv_at hl 1 rfl) ?_
  refine lv_iadd hx hb dX4_indexOf_5 ?_
  exact q_iret hx hb hr hlk dX4_indexOf_6 (by rw [show (8 : Int32) = nI 8 from rfl, pk_mul, nI_add])

set_option maxHeartbeats 4000000 in
set_option maxRecDepth 100000 in
theorem c_X2_signAt (l : Launch) (w : Int64) (k : Nat) : q_PM l yX2_signAt wsX2_signAt { frames := 0, cells := 0, slots := 0, locals := 0 } [.long w, .int (nI k)] (fun _ => True) (.int (sgn w k)) := by
  refine q_pm (cc := cX2_signAt) (maxL := 3) (ret := (some .int)) (by decide) rfl (Nat.le_of_ble_eq_true rfl) ?_
  intro p e s m args below meth c ls hx hb hml hown hts hr hlk _ hl
  have hl : lv_has ls 3 [(0, .long w), (2, .int (nI k))] := hl
  refine lv_lload_n hx hb dX2_signAt_0 rfl (lv_at hl 0 rfl) ?_
  refine lv_iconst (v := 4) hx hb dX2_signAt_1 (by decide) ?_
  refine lv_iload_n hx hb dX2_signAt_2 rfl (lv_at hl 1 rfl) ?_
  refine lv_imul hx hb dX2_signAt_3 ?_
  refine lv_lushr (v := (w.toUInt64 >>> ((4 * (nI k)).toInt64.toUInt64 &&& Int64.toUInt64 63)).toInt64) hx hb dX2_signAt_4 rfl ?_
  refine lv_l2i (v := ((w.toUInt64 >>> ((4 * (nI k)).toInt64.toUInt64 &&& Int64.toUInt64 63)).toInt64).toInt32) hx hb dX2_signAt_5 rfl ?_
  refine lv_bipush (v := 15) hx hb dX2_signAt_6 (by decide) ?_
  refine lv_iand hx hb dX2_signAt_8 ?_
  exact q_iret hx hb hr hlk dX2_signAt_9 (rfl)

set_option maxHeartbeats 4000000 in
set_option maxRecDepth 100000 in
theorem c_X3_isTeam (l : Launch) (g : q_G) (q : Nat → Nat) (S : q_St) (x : Int32) : q_PM l yX3_isTeam wsX3_isTeam { frames := 0, cells := 0, slots := 0, locals := 0 } [.ref (q 0), .int x] (q_B g (q_stW g q S)) (.int (bI (isTm S x))) := by
  refine q_pm (cc := cX3_isTeam) (maxL := 2) (ret := (some .boolean)) (by decide) rfl (Nat.le_of_ble_eq_true rfl) ?_
  intro p e s m args below meth c ls hx hb hml hown hts hr hlk hB hl
  obtain ⟨hP, hK, hN⟩ := hB
  have fl_66 := hts (.fieldLink RX3 66 "PubQuizzes$State" "teams" "I") (by decide +kernel)
  have hi_X3 : ∀ w ∈ u_ws RX3 TX3 12, w ∈ wsX3_isTeam := by decide +kernel
  have hl : lv_has ls 2 [(0, .ref (q 0)), (1, .int x)] := hl
  refine lv_iload_n hx hb dX3_isTeam_0 rfl (lv_at hl 1 rfl) ?_
  refine lv_if_lt (tgt := 22) hx hb dX3_isTeam_1 (by decide) (fun c_1 => ?_) (fun c_1 => ?_)
  · skip
    refine lv_iconst (v := 0) hx hb dX3_isTeam_22 (by decide) ?_
    exact q_zret hx hb hr hlk dX3_isTeam_23 (by first | rfl | simp [isTm, bI, c_1])
  · skip
    refine lv_iload_n hx hb dX3_isTeam_4 rfl (lv_at hl 1 rfl) ?_
    refine lv_aload_n hx hb dX3_isTeam_5 rfl (lv_at hl 0 rfl) ?_
    refine va_get (D := g.1) (ci := 2) (v := .int (nI (s_n S))) (C := RX3) (T := TX3) (N := 12) hx hb hts hi_X3 hown hK hP 0 rfl rfl 10 (by decide) fl_66 (fun _ h9 => h9) rfl dX3_isTeam_6 ?_
    refine lv_icmp_ge (tgt := 22) hx hb dX3_isTeam_9 (by decide) (fun c_9 => ?_) (fun c_9 => ?_)
    · skip
      refine lv_iconst (v := 0) hx hb dX3_isTeam_22 (by decide) ?_
      exact q_zret hx hb hr hlk dX3_isTeam_23 (by first | rfl | simp [isTm, bI, c_1, c_9])
    · skip
      refine lv_iload_n hx hb dX3_isTeam_12 rfl (lv_at hl 1 rfl) ?_
      refine lv_bipush (v := 10) hx hb dX3_isTeam_13 (by decide) ?_
      refine lv_icmp_ge (tgt := 22) hx hb dX3_isTeam_15 (by decide) (fun c_15 => ?_) (fun c_15 => ?_)
      · skip
        refine lv_iconst (v := 0) hx hb dX3_isTeam_22 (by decide) ?_
        exact q_zret hx hb hr hlk dX3_isTeam_23 (by first | rfl | simp [isTm, bI, c_1, c_9, c_15])
      · skip
        refine lv_iconst (v := 1) hx hb dX3_isTeam_18 (by decide) ?_
        refine lv_goto (tgt := 23) hx hb dX3_isTeam_19 (by decide) ?_
        exact q_zret hx hb hr hlk dX3_isTeam_23 (by first | rfl | simp [isTm, bI, c_1, c_9, c_15])

set_option maxHeartbeats 4000000 in
set_option maxRecDepth 100000 in
theorem c_X3_isOpen (l : Launch) (g : q_G) (q : Nat → Nat) (S : q_St) (r : Nat) (h1_ : r < 8) : q_PM l yX3_isOpen wsX3_isOpen { frames := 0, cells := 0, slots := 0, locals := 0 } [.ref (q 0), .int (nI r)] (q_B g (q_stW g q S)) (.int (bI (isOp S r))) := by
  refine q_pm (cc := cX3_isOpen) (maxL := 2) (ret := (some .boolean)) (by decide) rfl (Nat.le_of_ble_eq_true rfl) ?_
  intro p e s m args below meth c ls hx hb hml hown hts hr hlk hB hl
  obtain ⟨hP, hK, hN⟩ := hB
  have fl_27 := hts (.fieldLink RX3 27 "PubQuizzes$State" "keys" "[J") (by decide +kernel)
  have hi_X3 : ∀ w ∈ u_ws RX3 TX3 12, w ∈ wsX3_isOpen := by decide +kernel
  have hl : lv_has ls 2 [(0, .ref (q 0)), (1, .int (nI r))] := hl
  refine lv_aload_n hx hb dX3_isOpen_0 rfl (lv_at hl 0 rfl) ?_
  refine va_get (D := g.1) (ci := 2) (v := .ref (q 6)) (C := RX3) (T := TX3) (N := 12) hx hb hts hi_X3 hown hK hP 0 rfl rfl 5 (by decide) fl_27 (fun _ h9 => h9) rfl dX3_isOpen_1 ?_
  refine lv_iload_n hx hb dX3_isOpen_4 rfl (lv_at hl 1 rfl) ?_
  refine q_lald (j := r) hx hb hK hP 6 1 rfl rfl (by omega) (by decide) dX3_isOpen_5 ?_
  refine lv_ldc2 (v := (-1)) hx hb hown (hts (.constantLong RX3 55 (-1)) (by decide +kernel)) dX3_isOpen_6 ?_
  refine W.lcmp hx hb dX3_isOpen_9 ?_
  refine lv_if_ne (tgt := 17) hx hb dX3_isOpen_10 (by decide) (fun c_10 => ?_) (fun c_10 => ?_)
  · skip
    have c_10 := q_cmp_n c_10
    refine lv_iconst (v := 0) hx hb dX3_isOpen_17 (by decide) ?_
    exact q_zret hx hb hr hlk dX3_isOpen_18 (by first | rfl | simp [isOp, bI, c_10])
  · skip
    have c_10 := q_cmp_e c_10
    refine lv_iconst (v := 1) hx hb dX3_isOpen_13 (by decide) ?_
    refine lv_goto (tgt := 18) hx hb dX3_isOpen_14 (by decide) ?_
    exact q_zret hx hb hr hlk dX3_isOpen_18 (by first | rfl | simp [isOp, bI, c_10])

set_option maxHeartbeats 4000000 in
set_option maxRecDepth 100000 in
theorem c_X3_hasSheet (l : Launch) (g : q_G) (q : Nat → Nat) (S : q_St) (t : Nat) (r : Nat) (h1_ : t < 10) (h2_ : r < 8) : q_PM l yX3_hasSheet wsX3_hasSheet { frames := 1, cells := 0, slots := 0, locals := 21 } [.ref (q 0), .int (nI t), .int (nI r)] (q_B g (q_stW g q S)) (.int (bI (hasS S t r))) := by
  refine q_pm (cc := cX3_hasSheet) (maxL := 3) (ret := (some .boolean)) (by decide) rfl (Nat.le_of_ble_eq_true rfl) ?_
  intro p e s m args below meth c ls hx hb hml hown hts hr hlk hB hl
  obtain ⟨hP, hK, hN⟩ := hB
  have fl_31 := hts (.fieldLink RX3 31 "PubQuizzes$State" "sheets" "[J") (by decide +kernel)
  have hi_X3 : ∀ w ∈ u_ws RX3 TX3 12, w ∈ wsX3_hasSheet := by decide +kernel
  have hl : lv_has ls 3 [(0, .ref (q 0)), (1, .int (nI t)), (2, .int (nI r))] := hl
  refine lv_aload_n hx hb dX3_hasSheet_0 rfl (lv_at hl 0 rfl) ?_
  refine va_get (D := g.1) (ci := 2) (v := .ref (q 7)) (C := RX3) (T := TX3) (N := 12) hx hb hts hi_X3 hown hK hP 0 rfl rfl 6 (by decide) fl_31 (fun _ h9 => h9) rfl dX3_hasSheet_1 ?_
  refine lv_iload_n hx hb dX3_hasSheet_4 rfl (lv_at hl 1 rfl) ?_
  refine lv_iload_n hx hb dX3_hasSheet_5 rfl (lv_at hl 2 rfl) ?_
  refine q_SN (As := [.int (nI t), .int (nI r)]) (rest := [.ref (q 7)]) ⟨hx, hb, hml, hown, hts⟩ (c_X4_indexOf l t r ) ⟨va_cnB 2 hts gX3_hasSheet_X4_indexOf_n69 rfl rfl rfl hN (hts (.initialized RX4) (by decide +kernel)) (by decide +kernel) ⟨Nat.le_of_ble_eq_true rfl, Nat.le_of_ble_eq_true rfl⟩, hts (.static yX4_indexOf) (by decide +kernel), trivial⟩ q_Blind_t (fun _ _ _ => trivial) rfl hl.1 rfl (Nat.le_of_ble_eq_true rfl) dX3_hasSheet_6 (Nat.zero_le _) (Nat.zero_le _) ?_
  refine q_lald (j := (t * 8 + r)) hx hb hK hP 7 1 rfl rfl (by omega) (by decide) dX3_hasSheet_9 ?_
  refine lv_ldc2 (v := (-1)) hx hb hown (hts (.constantLong RX3 55 (-1)) (by decide +kernel)) dX3_hasSheet_10 ?_
  refine W.lcmp hx hb dX3_hasSheet_13 ?_
  refine lv_if_eq (tgt := 21) hx hb dX3_hasSheet_14 (by decide) (fun c_14 => ?_) (fun c_14 => ?_)
  · skip
    have c_14 := q_cmp_e c_14
    refine lv_iconst (v := 0) hx hb dX3_hasSheet_21 (by decide) ?_
    exact q_zret hx hb hr hlk dX3_hasSheet_22 (by first | rfl | simp [hasS, bI, c_14])
  · skip
    have c_14 := q_cmp_n c_14
    refine lv_iconst (v := 1) hx hb dX3_hasSheet_17 (by decide) ?_
    refine lv_goto (tgt := 22) hx hb dX3_hasSheet_18 (by decide) ?_
    exact q_zret hx hb hr hlk dX3_hasSheet_22 (by first | rfl | simp [hasS, bI, c_14])

set_option maxHeartbeats 4000000 in
set_option maxRecDepth 100000 in
theorem c_X3_markerOf (l : Launch) (g : q_G) (q : Nat → Nat) (S : q_St) (t : Nat) (r : Nat) (h1_ : t < 10) (h2_ : r < 8) : q_PM l yX3_markerOf wsX3_markerOf { frames := 1, cells := 0, slots := 0, locals := 21 } [.ref (q 0), .int (nI t), .int (nI r)] (q_B g (q_stW g q S)) (.int (s_mkr S (t * 8 + r))) := by
  refine q_pm (cc := cX3_markerOf) (maxL := 3) (ret := (some .int)) (by decide) rfl (Nat.le_of_ble_eq_true rfl) ?_
  intro p e s m args below meth c ls hx hb hml hown hts hr hlk hB hl
  obtain ⟨hP, hK, hN⟩ := hB
  have fl_37 := hts (.fieldLink RX3 37 "PubQuizzes$State" "markers" "[I") (by decide +kernel)
  have hi_X3 : ∀ w ∈ u_ws RX3 TX3 12, w ∈ wsX3_markerOf := by decide +kernel
  have hl : lv_has ls 3 [(0, .ref (q 0)), (1, .int (nI t)), (2, .int (nI r))] := hl
  refine lv_aload_n hx hb dX3_markerOf_0 rfl (lv_at hl 0 rfl) ?_
  refine va_get (D := g.1) (ci := 2) (v := .ref (q 9)) (C := RX3) (T := TX3) (N := 12) hx hb hts hi_X3 hown hK hP 0 rfl rfl 8 (by decide) fl_37 (fun _ h9 => h9) rfl dX3_markerOf_1 ?_
  refine lv_iload_n hx hb dX3_markerOf_4 rfl (lv_at hl 1 rfl) ?_
  refine lv_iload_n hx hb dX3_markerOf_5 rfl (lv_at hl 2 rfl) ?_
  refine q_SN (As := [.int (nI t), .int (nI r)]) (rest := [.ref (q 9)]) ⟨hx, hb, hml, hown, hts⟩ (c_X4_indexOf l t r ) ⟨va_cnB 2 hts gX3_markerOf_X4_indexOf_n69 rfl rfl rfl hN (hts (.initialized RX4) (by decide +kernel)) (by decide +kernel) ⟨Nat.le_of_ble_eq_true rfl, Nat.le_of_ble_eq_true rfl⟩, hts (.static yX4_indexOf) (by decide +kernel), trivial⟩ q_Blind_t (fun _ _ _ => trivial) rfl hl.1 rfl (Nat.le_of_ble_eq_true rfl) dX3_markerOf_6 (Nat.zero_le _) (Nat.zero_le _) ?_
  refine q_iald (j := (t * 8 + r)) hx hb hK hP 9 0 rfl rfl (by omega) (by decide) dX3_markerOf_9 ?_
  exact q_iret hx hb hr hlk dX3_markerOf_10 (rfl)

set_option maxHeartbeats 4000000 in
set_option maxRecDepth 100000 in
theorem c_X3_markOf (l : Launch) (g : q_G) (q : Nat → Nat) (S : q_St) (t : Nat) (r : Nat) (h1_ : t < 10) (h2_ : r < 8) : q_PM l yX3_markOf wsX3_markOf { frames := 1, cells := 0, slots := 0, locals := 21 } [.ref (q 0), .int (nI t), .int (nI r)] (q_B g (q_stW g q S)) (.int (s_mar S (t * 8 + r))) := by
  refine q_pm (cc := cX3_markOf) (maxL := 3) (ret := (some .int)) (by decide) rfl (Nat.le_of_ble_eq_true rfl) ?_
  intro p e s m args below meth c ls hx hb hml hown hts hr hlk hB hl
  obtain ⟨hP, hK, hN⟩ := hB
  have fl_34 := hts (.fieldLink RX3 34 "PubQuizzes$State" "marks" "[I") (by decide +kernel)
  have hi_X3 : ∀ w ∈ u_ws RX3 TX3 12, w ∈ wsX3_markOf := by decide +kernel
  have hl : lv_has ls 3 [(0, .ref (q 0)), (1, .int (nI t)), (2, .int (nI r))] := hl
  refine lv_aload_n hx hb dX3_markOf_0 rfl (lv_at hl 0 rfl) ?_
  refine va_get (D := g.1) (ci := 2) (v := .ref (q 8)) (C := RX3) (T := TX3) (N := 12) hx hb hts hi_X3 hown hK hP 0 rfl rfl 7 (by decide) fl_34 (fun _ h9 => h9) rfl dX3_markOf_1 ?_
  refine lv_iload_n hx hb dX3_markOf_4 rfl (lv_at hl 1 rfl) ?_
  refine lv_iload_n hx hb dX3_markOf_5 rfl (lv_at hl 2 rfl) ?_
  refine q_SN (As := [.int (nI t), .int (nI r)]) (rest := [.ref (q 8)]) ⟨hx, hb, hml, hown, hts⟩ (c_X4_indexOf l t r ) ⟨va_cnB 2 hts gX3_markOf_X4_indexOf_n69 rfl rfl rfl hN (hts (.initialized RX4) (by decide +kernel)) (by decide +kernel) ⟨Nat.le_of_ble_eq_true rfl, Nat.le_of_ble_eq_true rfl⟩, hts (.static yX4_indexOf) (by decide +kernel), trivial⟩ q_Blind_t (fun _ _ _ => trivial) rfl hl.1 rfl (Nat.le_of_ble_eq_true rfl) dX3_markOf_6 (Nat.zero_le _) (Nat.zero_le _) ?_
  refine q_iald (j := (t * 8 + r)) hx hb hK hP 8 0 rfl rfl (by omega) (by decide) dX3_markOf_9 ?_
  exact q_iret hx hb hr hlk dX3_markOf_10 (rfl)

set_option maxHeartbeats 4000000 in
set_option maxRecDepth 100000 in
theorem c_X3_isTold (l : Launch) (g : q_G) (q : Nat → Nat) (S : q_St) (t : Nat) (r : Nat) (h1_ : t < 10) (h2_ : r < 8) : q_PM l yX3_isTold wsX3_isTold { frames := 2, cells := 0, slots := 0, locals := 43 } [.ref (q 0), .int (nI t), .int (nI r)] (q_B g (q_stW g q S)) (.int (bI (tldS S t r))) := by
  refine q_pm (cc := cX3_isTold) (maxL := 3) (ret := (some .boolean)) (by decide) rfl (Nat.le_of_ble_eq_true rfl) ?_
  intro p e s m args below meth c ls hx hb hml hown hts hr hlk hB hl
  obtain ⟨hP, hK, hN⟩ := hB
  have hl : lv_has ls 3 [(0, .ref (q 0)), (1, .int (nI t)), (2, .int (nI r))] := hl
  refine lv_aload_n hx hb dX3_isTold_0 rfl (lv_at hl 0 rfl) ?_
  refine lv_iload_n hx hb dX3_isTold_1 rfl (lv_at hl 1 rfl) ?_
  refine lv_iload_n hx hb dX3_isTold_2 rfl (lv_at hl 2 rfl) ?_
  refine q_V (As := [.int (nI t), .int (nI r)]) (rest := []) ⟨hx, hb, hml, hown, hts⟩ (c_X3_markerOf l g q S t r (by omega) (by omega)) (cwV 2 hts gX3_isTold_X3_markerOf rfl rfl rfl (by decide +kernel) ⟨Nat.le_of_ble_eq_true rfl, Nat.le_of_ble_eq_true rfl⟩) q_B_blind (va_recv hK hP (ci := 2) (q0 := 0) rfl rfl) (q_B_of hP hK hN) rfl hl.1 rfl (Nat.le_of_ble_eq_true rfl) dX3_isTold_3 (Nat.zero_le _) (Nat.zero_le _) ?_
  refine lv_bipush (v := (-6)) hx hb dX3_isTold_6 (by decide) ?_
  refine lv_icmp_eq (tgt := 15) hx hb dX3_isTold_8 (by decide) (fun c_8 => ?_) (fun c_8 => ?_)
  · skip
    refine lv_iconst (v := 0) hx hb dX3_isTold_15 (by decide) ?_
    exact q_zret hx hb hr hlk dX3_isTold_16 (by first | rfl | simp [tldS, bI, c_8])
  · skip
    refine lv_iconst (v := 1) hx hb dX3_isTold_11 (by decide) ?_
    refine lv_goto (tgt := 16) hx hb dX3_isTold_12 (by decide) ?_
    exact q_zret hx hb hr hlk dX3_isTold_16 (by first | rfl | simp [tldS, bI, c_8])

set_option maxHeartbeats 4000000 in
set_option maxRecDepth 100000 in
theorem c_X3_isLooked (l : Launch) (g : q_G) (q : Nat → Nat) (S : q_St) (t : Nat) (r : Nat) (h1_ : t < 10) (h2_ : r < 8) : q_PM l yX3_isLooked wsX3_isLooked { frames := 0, cells := 0, slots := 0, locals := 0 } [.ref (q 0), .int (nI t), .int (nI r)] (q_B g (q_stW g q S)) (.int (bI (lokS S t r))) := by
  refine q_pm (cc := cX3_isLooked) (maxL := 3) (ret := (some .boolean)) (by decide) rfl (Nat.le_of_ble_eq_true rfl) ?_
  intro p e s m args below meth c ls hx hb hml hown hts hr hlk hB hl
  obtain ⟨hP, hK, hN⟩ := hB
  have fl_40 := hts (.fieldLink RX3 40 "PubQuizzes$State" "looked" "[I") (by decide +kernel)
  have hi_X3 : ∀ w ∈ u_ws RX3 TX3 12, w ∈ wsX3_isLooked := by decide +kernel
  have hl : lv_has ls 3 [(0, .ref (q 0)), (1, .int (nI t)), (2, .int (nI r))] := hl
  refine lv_aload_n hx hb dX3_isLooked_0 rfl (lv_at hl 0 rfl) ?_
  refine va_get (D := g.1) (ci := 2) (v := .ref (q 10)) (C := RX3) (T := TX3) (N := 12) hx hb hts hi_X3 hown hK hP 0 rfl rfl 9 (by decide) fl_40 (fun _ h9 => h9) rfl dX3_isLooked_1 ?_
  refine lv_iload_n hx hb dX3_isLooked_4 rfl (lv_at hl 2 rfl) ?_
  refine q_iald (j := r) hx hb hK hP 10 0 rfl rfl (by omega) (by decide) dX3_isLooked_5 ?_
  refine lv_iconst (v := 1) hx hb dX3_isLooked_6 (by decide) ?_
  refine lv_iload_n hx hb dX3_isLooked_7 rfl (lv_at hl 1 rfl) ?_
  refine lv_ishl hx hb dX3_isLooked_8 ?_
  refine lv_iand hx hb dX3_isLooked_9 ?_
  refine lv_if_eq (tgt := 17) hx hb dX3_isLooked_10 (by decide) (fun c_10 => ?_) (fun c_10 => ?_)
  · skip
    refine lv_iconst (v := 0) hx hb dX3_isLooked_17 (by decide) ?_
    exact q_zret hx hb hr hlk dX3_isLooked_18 (by first | rfl | simp [lokS, bI, c_10])
  · skip
    refine lv_iconst (v := 1) hx hb dX3_isLooked_13 (by decide) ?_
    refine lv_goto (tgt := 18) hx hb dX3_isLooked_14 (by decide) ?_
    exact q_zret hx hb hr hlk dX3_isLooked_18 (by first | rfl | simp [lokS, bI, c_10])

set_option maxHeartbeats 4000000 in
set_option maxRecDepth 100000 in
theorem c_X3_trueMark (l : Launch) (g : q_G) (q : Nat → Nat) (S : q_St) (t : Nat) (r : Nat) (h1_ : t < 10) (h2_ : r < 8) : q_PM l yX3_trueMark wsX3_trueMark { frames := 1, cells := 0, slots := 0, locals := 22 } [.ref (q 0), .int (nI t), .int (nI r)] (q_B g (q_stW g q S)) (.int (truM S t r)) := by
  refine q_pm (cc := cX3_trueMark) (maxL := 10) (ret := (some .int)) (by decide) rfl (Nat.le_of_ble_eq_true rfl) ?_
  intro p e s m args below meth c ls hx hb hml hown hts hr hlk hB hl
  obtain ⟨hP, hK, hN⟩ := hB
  have fl_9 := hts (.fieldLink RX3 9 "PubQuizzes$State" "settings" "[I") (by decide +kernel)
  have fl_27 := hts (.fieldLink RX3 27 "PubQuizzes$State" "keys" "[J") (by decide +kernel)
  have fl_31 := hts (.fieldLink RX3 31 "PubQuizzes$State" "sheets" "[J") (by decide +kernel)
  have hi_X3 : ∀ w ∈ u_ws RX3 TX3 12, w ∈ wsX3_trueMark := by decide +kernel
  have hl : lv_has ls 10 [(0, .ref (q 0)), (1, .int (nI t)), (2, .int (nI r))] := hl
  refine lv_aload_n hx hb dX3_trueMark_0 rfl (lv_at hl 0 rfl) ?_
  refine va_get (D := g.1) (ci := 2) (v := .ref (q 7)) (C := RX3) (T := TX3) (N := 12) hx hb hts hi_X3 hown hK hP 0 rfl rfl 6 (by decide) fl_31 (fun _ h9 => h9) rfl dX3_trueMark_1 ?_
  refine lv_iload_n hx hb dX3_trueMark_4 rfl (lv_at hl 1 rfl) ?_
  refine lv_iload_n hx hb dX3_trueMark_5 rfl (lv_at hl 2 rfl) ?_
  refine q_SN (As := [.int (nI t), .int (nI r)]) (rest := [.ref (q 7)]) ⟨hx, hb, hml, hown, hts⟩ (c_X4_indexOf l t r ) ⟨va_cnB 2 hts gX3_trueMark_X4_indexOf_n69 rfl rfl rfl hN (hts (.initialized RX4) (by decide +kernel)) (by decide +kernel) ⟨Nat.le_of_ble_eq_true rfl, Nat.le_of_ble_eq_true rfl⟩, hts (.static yX4_indexOf) (by decide +kernel), trivial⟩ q_Blind_t (fun _ _ _ => trivial) rfl hl.1 rfl (Nat.le_of_ble_eq_true rfl) dX3_trueMark_6 (Nat.zero_le _) (Nat.zero_le _) ?_
  refine q_lald (j := (t * 8 + r)) hx hb hK hP 7 1 rfl rfl (by omega) (by decide) dX3_trueMark_9 ?_
  refine lv_lstore_n (lv' := [(3, .long (s_she S (t * 8 + r))), (0, .ref (q 0)), (1, .int (nI t)), (2, .int (nI r))]) hx hb dX3_trueMark_10 rfl hl (by decide) rfl (fun ls hl => ?_)
  refine lv_aload_n hx hb dX3_trueMark_11 rfl (lv_at hl 1 rfl) ?_
  refine va_get (D := g.1) (ci := 2) (v := .ref (q 6)) (C := RX3) (T := TX3) (N := 12) hx hb hts hi_X3 hown hK hP 0 rfl rfl 5 (by decide) fl_27 (fun _ h9 => h9) rfl dX3_trueMark_12 ?_
  refine lv_iload_n hx hb dX3_trueMark_15 rfl (lv_at hl 3 rfl) ?_
  refine q_lald (j := r) hx hb hK hP 6 1 rfl rfl (by omega) (by decide) dX3_trueMark_16 ?_
  refine lv_lstore (lv' := [(5, .long (s_key S r)), (3, .long (s_she S (t * 8 + r))), (0, .ref (q 0)), (1, .int (nI t)), (2, .int (nI r))]) hx hb dX3_trueMark_17 hl (by decide) rfl (fun ls hl => ?_)
  refine lv_iconst (v := 0) hx hb dX3_trueMark_19 (by decide) ?_
  refine lv_istore (lv' := [(7, .int 0), (5, .long (s_key S r)), (3, .long (s_she S (t * 8 + r))), (0, .ref (q 0)), (1, .int (nI t)), (2, .int (nI r))]) hx hb dX3_trueMark_20 hl (by decide) rfl (fun ls hl => ?_)
  refine lv_iconst (v := 0) hx hb dX3_trueMark_22 (by decide) ?_
  refine lv_istore (lv' := [(8, .int 0), (7, .int 0), (5, .long (s_key S r)), (3, .long (s_she S (t * 8 + r))), (0, .ref (q 0)), (1, .int (nI t)), (2, .int (nI r))]) hx hb dX3_trueMark_23 hl (by decide) rfl (fun ls hl => ?_)
  have L_25 : ∀ (n i25 : Nat) (y7_25 : Int32), y7_25 = q_acc 0 (tmk (s_she S (t * 8 + r)) (s_key S r) (s_set S 2)) i25 → i25 ≤ 10 → 10 < i25 + n → ∀ ls : Array Slot, lv_has ls 10 [(8, .int (nI i25)), (7, .int y7_25), (5, .long (s_key S r)), (3, .long (s_she S (t * 8 + r))), (0, .ref (q 0)), (1, .int (nI t)), (2, .int (nI r))] → W p l e { frames := 1, cells := 0, slots := 0, locals := 22 } s m args below meth c s.heap [] 0 0 (MQ below (k2_QcV (.int (truM S t r))) args s 0 0 (fun _ => False)) (F0 m 25 ls []) := by
    intro n
    induction n with
    | zero => intro i25 y7_25 ey7_25 hi_i25 hn_i25; exact absurd hn_i25 (by omega)
    | succ n ih_i25 =>
      intro i25 y7_25 ey7_25 hi_i25 hn_i25 ls hl
      subst ey7_25
      refine lv_iload hx hb dX3_trueMark_25 (lv_at hl 0 rfl) ?_
      refine lv_bipush (v := 10) hx hb dX3_trueMark_27 (by decide) ?_
      refine lv_icmp_ge (tgt := 82) hx hb dX3_trueMark_29 (by decide) (fun c_29 => ?_) (fun c_29 => ?_)
      · skip
        have e_29 : i25 = 10 := q_ge_T (by omega) hi_i25 c_29
        subst e_29
        refine lv_iload hx hb dX3_trueMark_82 (lv_at hl 1 rfl) ?_
        exact q_iret hx hb hr hlk dX3_trueMark_84 (rfl)
      · skip
        have lt_i25 : i25 < 10 := q_ge_F (by omega) hi_i25 c_29
        refine lv_lload_n hx hb dX3_trueMark_32 rfl (lv_at hl 3 rfl) ?_
        refine lv_iload hx hb dX3_trueMark_33 (lv_at hl 0 rfl) ?_
        refine q_S (As := [.long (s_she S (t * 8 + r)), .int (nI i25)]) (rest := []) ⟨hx, hb, hml, hown, hts⟩ (c_X2_signAt l (s_she S (t * 8 + r)) i25 ) (va_cwS 2 hts gX3_trueMark_X2_signAt rfl rfl rfl (by decide +kernel) ⟨Nat.le_of_ble_eq_true rfl, Nat.le_of_ble_eq_true rfl⟩) q_Blind_t (fun _ _ _ => trivial) rfl hl.1 rfl (Nat.le_of_ble_eq_true rfl) dX3_trueMark_35 (Nat.zero_le _) (Nat.zero_le _) ?_
        refine lv_istore (lv' := [(9, .int (sgn (s_she S (t * 8 + r)) i25)), (8, .int (nI i25)), (7, .int (q_acc 0 (tmk (s_she S (t * 8 + r)) (s_key S r) (s_set S 2)) i25)), (5, .long (s_key S r)), (3, .long (s_she S (t * 8 + r))), (0, .ref (q 0)), (1, .int (nI t)), (2, .int (nI r))]) hx hb dX3_trueMark_38 hl (by decide) rfl (fun ls hl => ?_)
        refine lv_iload hx hb dX3_trueMark_40 (lv_at hl 0 rfl) ?_
        refine lv_lload hx hb dX3_trueMark_42 (lv_at hl 3 rfl) ?_
        refine lv_iload hx hb dX3_trueMark_44 (lv_at hl 1 rfl) ?_
        refine q_S (As := [.long (s_key S r), .int (nI i25)]) (rest := [.int (sgn (s_she S (t * 8 + r)) i25)]) ⟨hx, hb, hml, hown, hts⟩ (c_X2_signAt l (s_key S r) i25 ) (va_cwS 2 hts gX3_trueMark_X2_signAt rfl rfl rfl (by decide +kernel) ⟨Nat.le_of_ble_eq_true rfl, Nat.le_of_ble_eq_true rfl⟩) q_Blind_t (fun _ _ _ => trivial) rfl hl.1 rfl (Nat.le_of_ble_eq_true rfl) dX3_trueMark_46 (Nat.zero_le _) (Nat.zero_le _) ?_
        refine lv_icmp_ne (tgt := 58) hx hb dX3_trueMark_49 (by decide) (fun c_49 => ?_) (fun c_49 => ?_)
        · skip
          refine lv_iload hx hb dX3_trueMark_58 (lv_at hl 0 rfl) ?_
          refine lv_bipush (v := 15) hx hb dX3_trueMark_60 (by decide) ?_
          refine lv_icmp_eq (tgt := 76) hx hb dX3_trueMark_62 (by decide) (fun c_62 => ?_) (fun c_62 => ?_)
          · skip
            refine lv_iinc (v := nI (i25 + 1)) (lv' := [(8, .int (nI (i25 + 1))), (9, .int (sgn (s_she S (t * 8 + r)) i25)), (7, .int (q_acc 0 (tmk (s_she S (t * 8 + r)) (s_key S r) (s_set S 2)) i25)), (5, .long (s_key S r)), (3, .long (s_she S (t * 8 + r))), (0, .ref (q 0)), (1, .int (nI t)), (2, .int (nI r))]) hx hb dX3_trueMark_76 hl (k := 1) rfl (nI_1 _) (by decide) rfl (fun ls hl => ?_)
            refine lv_goto (tgt := 25) hx hb dX3_trueMark_79 (by decide) ?_
            exact ih_i25 (i25 + 1) (q_acc 0 (tmk (s_she S (t * 8 + r)) (s_key S r) (s_set S 2)) i25) (by simp only [q_acc, tmk, if_neg c_49, if_pos c_62, Int32.sub_eq_add_neg, Int32.add_zero]) lt_i25 (by omega) ls (lv_sub hl [0, 2, 3, 4, 5, 6, 7] rfl)
          · skip
            refine lv_iload hx hb dX3_trueMark_65 (lv_at hl 2 rfl) ?_
            refine lv_aload_n hx hb dX3_trueMark_67 rfl (lv_at hl 5 rfl) ?_
            refine va_get (D := g.1) (ci := 2) (v := .ref (q 1)) (C := RX3) (T := TX3) (N := 12) hx hb hts hi_X3 hown hK hP 0 rfl rfl 0 (by decide) fl_9 (fun _ h9 => h9) rfl dX3_trueMark_68 ?_
            refine lv_iconst (v := 2) hx hb dX3_trueMark_71 (by decide) ?_
            refine q_iald (j := 2) hx hb hK hP 1 0 rfl rfl (by omega) (by decide) dX3_trueMark_72 ?_
            refine lv_isub hx hb dX3_trueMark_73 ?_
            refine lv_istore (lv' := [(7, .int ((q_acc 0 (tmk (s_she S (t * 8 + r)) (s_key S r) (s_set S 2)) i25) - (s_set S 2))), (9, .int (sgn (s_she S (t * 8 + r)) i25)), (8, .int (nI i25)), (5, .long (s_key S r)), (3, .long (s_she S (t * 8 + r))), (0, .ref (q 0)), (1, .int (nI t)), (2, .int (nI r))]) hx hb dX3_trueMark_74 hl (by decide) rfl (fun ls hl => ?_)
            refine lv_iinc (v := nI (i25 + 1)) (lv' := [(8, .int (nI (i25 + 1))), (7, .int ((q_acc 0 (tmk (s_she S (t * 8 + r)) (s_key S r) (s_set S 2)) i25) - (s_set S 2))), (9, .int (sgn (s_she S (t * 8 + r)) i25)), (5, .long (s_key S r)), (3, .long (s_she S (t * 8 + r))), (0, .ref (q 0)), (1, .int (nI t)), (2, .int (nI r))]) hx hb dX3_trueMark_76 hl (k := 2) rfl (nI_1 _) (by decide) rfl (fun ls hl => ?_)
            refine lv_goto (tgt := 25) hx hb dX3_trueMark_79 (by decide) ?_
            exact ih_i25 (i25 + 1) ((q_acc 0 (tmk (s_she S (t * 8 + r)) (s_key S r) (s_set S 2)) i25) - (s_set S 2)) (by simp only [q_acc, tmk, if_neg c_49, if_neg c_62, Int32.sub_eq_add_neg, Int32.add_zero]) lt_i25 (by omega) ls (lv_sub hl [0, 1, 3, 4, 5, 6, 7] rfl)
        · skip
          refine lv_iinc (v := q_acc 0 (tmk (s_she S (t * 8 + r)) (s_key S r) (s_set S 2)) i25 + 1) (lv' := [(7, .int (q_acc 0 (tmk (s_she S (t * 8 + r)) (s_key S r) (s_set S 2)) i25 + 1)), (9, .int (sgn (s_she S (t * 8 + r)) i25)), (8, .int (nI i25)), (5, .long (s_key S r)), (3, .long (s_she S (t * 8 + r))), (0, .ref (q 0)), (1, .int (nI t)), (2, .int (nI r))]) hx hb dX3_trueMark_52 hl (k := 2) rfl (rfl) (by decide) rfl (fun ls hl => ?_)
          refine lv_goto (tgt := 76) hx hb dX3_trueMark_55 (by decide) ?_
          refine lv_iinc (v := nI (i25 + 1)) (lv' := [(8, .int (nI (i25 + 1))), (7, .int (q_acc 0 (tmk (s_she S (t * 8 + r)) (s_key S r) (s_set S 2)) i25 + 1)), (9, .int (sgn (s_she S (t * 8 + r)) i25)), (5, .long (s_key S r)), (3, .long (s_she S (t * 8 + r))), (0, .ref (q 0)), (1, .int (nI t)), (2, .int (nI r))]) hx hb dX3_trueMark_76 hl (k := 2) rfl (nI_1 _) (by decide) rfl (fun ls hl => ?_)
          refine lv_goto (tgt := 25) hx hb dX3_trueMark_79 (by decide) ?_
          exact ih_i25 (i25 + 1) (q_acc 0 (tmk (s_she S (t * 8 + r)) (s_key S r) (s_set S 2)) i25 + 1) (by simp only [q_acc, tmk, if_pos c_49, Int32.sub_eq_add_neg, Int32.add_zero]) lt_i25 (by omega) ls (lv_sub hl [0, 1, 3, 4, 5, 6, 7] rfl)
  exact L_25 (10 + 1) 0 0 (rfl) (Nat.zero_le _) (by omega) ls (lv_sub hl [0, 1, 2, 3, 4, 5, 6] rfl)

set_option maxHeartbeats 4000000 in
set_option maxRecDepth 100000 in
theorem c_X3_answered (l : Launch) (g : q_G) (q : Nat → Nat) (S : q_St) (t : Nat) (r : Nat) (h1_ : t < 10) (h2_ : r < 8) : q_PM l yX3_answered wsX3_answered { frames := 1, cells := 0, slots := 0, locals := 22 } [.ref (q 0), .int (nI t), .int (nI r)] (q_B g (q_stW g q S)) (.int (nI (ansN S t r))) := by
  refine q_pm (cc := cX3_answered) (maxL := 7) (ret := (some .int)) (by decide) rfl (Nat.le_of_ble_eq_true rfl) ?_
  intro p e s m args below meth c ls hx hb hml hown hts hr hlk hB hl
  obtain ⟨hP, hK, hN⟩ := hB
  have fl_31 := hts (.fieldLink RX3 31 "PubQuizzes$State" "sheets" "[J") (by decide +kernel)
  have hi_X3 : ∀ w ∈ u_ws RX3 TX3 12, w ∈ wsX3_answered := by decide +kernel
  have hl : lv_has ls 7 [(0, .ref (q 0)), (1, .int (nI t)), (2, .int (nI r))] := hl
  refine lv_aload_n hx hb dX3_answered_0 rfl (lv_at hl 0 rfl) ?_
  refine va_get (D := g.1) (ci := 2) (v := .ref (q 7)) (C := RX3) (T := TX3) (N := 12) hx hb hts hi_X3 hown hK hP 0 rfl rfl 6 (by decide) fl_31 (fun _ h9 => h9) rfl dX3_answered_1 ?_
  refine lv_iload_n hx hb dX3_answered_4 rfl (lv_at hl 1 rfl) ?_
  refine lv_iload_n hx hb dX3_answered_5 rfl (lv_at hl 2 rfl) ?_
  refine q_SN (As := [.int (nI t), .int (nI r)]) (rest := [.ref (q 7)]) ⟨hx, hb, hml, hown, hts⟩ (c_X4_indexOf l t r ) ⟨va_cnB 2 hts gX3_answered_X4_indexOf_n69 rfl rfl rfl hN (hts (.initialized RX4) (by decide +kernel)) (by decide +kernel) ⟨Nat.le_of_ble_eq_true rfl, Nat.le_of_ble_eq_true rfl⟩, hts (.static yX4_indexOf) (by decide +kernel), trivial⟩ q_Blind_t (fun _ _ _ => trivial) rfl hl.1 rfl (Nat.le_of_ble_eq_true rfl) dX3_answered_6 (Nat.zero_le _) (Nat.zero_le _) ?_
  refine q_lald (j := (t * 8 + r)) hx hb hK hP 7 1 rfl rfl (by omega) (by decide) dX3_answered_9 ?_
  refine lv_lstore_n (lv' := [(3, .long (s_she S (t * 8 + r))), (0, .ref (q 0)), (1, .int (nI t)), (2, .int (nI r))]) hx hb dX3_answered_10 rfl hl (by decide) rfl (fun ls hl => ?_)
  refine lv_iconst (v := 0) hx hb dX3_answered_11 (by decide) ?_
  refine lv_istore (lv' := [(5, .int 0), (3, .long (s_she S (t * 8 + r))), (0, .ref (q 0)), (1, .int (nI t)), (2, .int (nI r))]) hx hb dX3_answered_12 hl (by decide) rfl (fun ls hl => ?_)
  refine lv_iconst (v := 0) hx hb dX3_answered_14 (by decide) ?_
  refine lv_istore (lv' := [(6, .int 0), (5, .int 0), (3, .long (s_she S (t * 8 + r))), (0, .ref (q 0)), (1, .int (nI t)), (2, .int (nI r))]) hx hb dX3_answered_15 hl (by decide) rfl (fun ls hl => ?_)
  have L_17 : ∀ (n i17 : Nat) (y5_17 : Int32), y5_17 = nI (q_cnt (ans1 (s_she S (t * 8 + r))) i17) → i17 ≤ 10 → 10 < i17 + n → ∀ ls : Array Slot, lv_has ls 7 [(6, .int (nI i17)), (5, .int y5_17), (3, .long (s_she S (t * 8 + r))), (0, .ref (q 0)), (1, .int (nI t)), (2, .int (nI r))] → W p l e { frames := 1, cells := 0, slots := 0, locals := 22 } s m args below meth c s.heap [] 0 0 (MQ below (k2_QcV (.int (nI (ansN S t r)))) args s 0 0 (fun _ => False)) (F0 m 17 ls []) := by
    intro n
    induction n with
    | zero => intro i17 y5_17 ey5_17 hi_i17 hn_i17; exact absurd hn_i17 (by omega)
    | succ n ih_i17 =>
      intro i17 y5_17 ey5_17 hi_i17 hn_i17 ls hl
      subst ey5_17
      refine lv_iload hx hb dX3_answered_17 (lv_at hl 0 rfl) ?_
      refine lv_bipush (v := 10) hx hb dX3_answered_19 (by decide) ?_
      refine lv_icmp_ge (tgt := 44) hx hb dX3_answered_21 (by decide) (fun c_21 => ?_) (fun c_21 => ?_)
      · skip
        have e_21 : i17 = 10 := q_ge_T (by omega) hi_i17 c_21
        subst e_21
        refine lv_iload hx hb dX3_answered_44 (lv_at hl 1 rfl) ?_
        exact q_iret hx hb hr hlk dX3_answered_46 (rfl)
      · skip
        have lt_i17 : i17 < 10 := q_ge_F (by omega) hi_i17 c_21
        refine lv_lload_n hx hb dX3_answered_24 rfl (lv_at hl 2 rfl) ?_
        refine lv_iload hx hb dX3_answered_25 (lv_at hl 0 rfl) ?_
        refine q_S (As := [.long (s_she S (t * 8 + r)), .int (nI i17)]) (rest := []) ⟨hx, hb, hml, hown, hts⟩ (c_X2_signAt l (s_she S (t * 8 + r)) i17 ) (va_cwS 2 hts gX3_answered_X2_signAt rfl rfl rfl (by decide +kernel) ⟨Nat.le_of_ble_eq_true rfl, Nat.le_of_ble_eq_true rfl⟩) q_Blind_t (fun _ _ _ => trivial) rfl hl.1 rfl (Nat.le_of_ble_eq_true rfl) dX3_answered_27 (Nat.zero_le _) (Nat.zero_le _) ?_
        refine lv_bipush (v := 15) hx hb dX3_answered_30 (by decide) ?_
        refine lv_icmp_eq (tgt := 38) hx hb dX3_answered_32 (by decide) (fun c_32 => ?_) (fun c_32 => ?_)
        · skip
          refine lv_iinc (v := nI (i17 + 1)) (lv' := [(6, .int (nI (i17 + 1))), (5, .int (nI (q_cnt (ans1 (s_she S (t * 8 + r))) i17))), (3, .long (s_she S (t * 8 + r))), (0, .ref (q 0)), (1, .int (nI t)), (2, .int (nI r))]) hx hb dX3_answered_38 hl (k := 0) rfl (nI_1 _) (by decide) rfl (fun ls hl => ?_)
          refine lv_goto (tgt := 17) hx hb dX3_answered_41 (by decide) ?_
          exact ih_i17 (i17 + 1) (nI (q_cnt (ans1 (s_she S (t * 8 + r))) i17)) (by simp [q_cnt, ans1, nI_1, c_32]) lt_i17 (by omega) ls (lv_sub hl [0, 1, 2, 3, 4, 5] rfl)
        · skip
          refine lv_iinc (v := nI ((q_cnt (ans1 (s_she S (t * 8 + r))) i17) + 1)) (lv' := [(5, .int (nI ((q_cnt (ans1 (s_she S (t * 8 + r))) i17) + 1))), (6, .int (nI i17)), (3, .long (s_she S (t * 8 + r))), (0, .ref (q 0)), (1, .int (nI t)), (2, .int (nI r))]) hx hb dX3_answered_35 hl (k := 1) rfl (nI_1 _) (by decide) rfl (fun ls hl => ?_)
          refine lv_iinc (v := nI (i17 + 1)) (lv' := [(6, .int (nI (i17 + 1))), (5, .int (nI ((q_cnt (ans1 (s_she S (t * 8 + r))) i17) + 1))), (3, .long (s_she S (t * 8 + r))), (0, .ref (q 0)), (1, .int (nI t)), (2, .int (nI r))]) hx hb dX3_answered_38 hl (k := 1) rfl (nI_1 _) (by decide) rfl (fun ls hl => ?_)
          refine lv_goto (tgt := 17) hx hb dX3_answered_41 (by decide) ?_
          exact ih_i17 (i17 + 1) (nI ((q_cnt (ans1 (s_she S (t * 8 + r))) i17) + 1)) (by simp [q_cnt, ans1, nI_1, c_32]) lt_i17 (by omega) ls (lv_sub hl [0, 1, 2, 3, 4, 5] rfl)
  exact L_17 (10 + 1) 0 0 (rfl) (Nat.zero_le _) (by omega) ls (lv_sub hl [0, 1, 2, 3, 4, 5] rfl)

set_option maxHeartbeats 4000000 in
set_option maxRecDepth 100000 in
theorem c_X3_isWrong (l : Launch) (g : q_G) (q : Nat → Nat) (S : q_St) (t : Nat) (r : Nat) (h1_ : t < 10) (h2_ : r < 8) : q_PM l yX3_isWrong wsX3_isWrong { frames := 3, cells := 0, slots := 0, locals := 65 } [.ref (q 0), .int (nI t), .int (nI r)] (q_B g (q_stW g q S)) (.int (bI (wroS S t r))) := by
  refine q_pm (cc := cX3_isWrong) (maxL := 3) (ret := (some .boolean)) (by decide) rfl (Nat.le_of_ble_eq_true rfl) ?_
  intro p e s m args below meth c ls hx hb hml hown hts hr hlk hB hl
  obtain ⟨hP, hK, hN⟩ := hB
  have hl : lv_has ls 3 [(0, .ref (q 0)), (1, .int (nI t)), (2, .int (nI r))] := hl
  refine lv_aload_n hx hb dX3_isWrong_0 rfl (lv_at hl 0 rfl) ?_
  refine lv_iload_n hx hb dX3_isWrong_1 rfl (lv_at hl 1 rfl) ?_
  refine lv_iload_n hx hb dX3_isWrong_2 rfl (lv_at hl 2 rfl) ?_
  refine q_V (As := [.int (nI t), .int (nI r)]) (rest := []) ⟨hx, hb, hml, hown, hts⟩ (c_X3_isTold l g q S t r (by omega) (by omega)) (cwV 2 hts gX3_isWrong_X3_isTold rfl rfl rfl (by decide +kernel) ⟨Nat.le_of_ble_eq_true rfl, Nat.le_of_ble_eq_true rfl⟩) q_B_blind (va_recv hK hP (ci := 2) (q0 := 0) rfl rfl) (q_B_of hP hK hN) rfl hl.1 rfl (Nat.le_of_ble_eq_true rfl) dX3_isWrong_3 (Nat.zero_le _) (Nat.zero_le _) ?_
  refine lv_if_eq (tgt := 37) hx hb dX3_isWrong_6 (by decide) (fun c_6 => ?_) (fun c_6 => ?_)
  · skip
    have c_6 : (tldS S t r) = false := bI_eq c_6
    refine lv_iconst (v := 0) hx hb dX3_isWrong_37 (by decide) ?_
    exact q_zret hx hb hr hlk dX3_isWrong_38 (by first | rfl | simp [wroS, bI, c_6])
  · skip
    have c_6 : (tldS S t r) = true := bI_ne c_6
    refine lv_aload_n hx hb dX3_isWrong_9 rfl (lv_at hl 0 rfl) ?_
    refine lv_iload_n hx hb dX3_isWrong_10 rfl (lv_at hl 1 rfl) ?_
    refine lv_iload_n hx hb dX3_isWrong_11 rfl (lv_at hl 2 rfl) ?_
    refine q_V (As := [.int (nI t), .int (nI r)]) (rest := []) ⟨hx, hb, hml, hown, hts⟩ (c_X3_isLooked l g q S t r (by omega) (by omega)) (cwV 2 hts gX3_isWrong_X3_isLooked rfl rfl rfl (by decide +kernel) ⟨Nat.le_of_ble_eq_true rfl, Nat.le_of_ble_eq_true rfl⟩) q_B_blind (va_recv hK hP (ci := 2) (q0 := 0) rfl rfl) (q_B_of hP hK hN) rfl hl.1 rfl (Nat.le_of_ble_eq_true rfl) dX3_isWrong_12 (Nat.zero_le _) (Nat.zero_le _) ?_
    refine lv_if_ne (tgt := 37) hx hb dX3_isWrong_15 (by decide) (fun c_15 => ?_) (fun c_15 => ?_)
    · skip
      have c_15 : (lokS S t r) = true := bI_ne c_15
      refine lv_iconst (v := 0) hx hb dX3_isWrong_37 (by decide) ?_
      exact q_zret hx hb hr hlk dX3_isWrong_38 (by first | rfl | simp [wroS, bI, c_6, c_15])
    · skip
      have c_15 : (lokS S t r) = false := bI_eq c_15
      refine lv_aload_n hx hb dX3_isWrong_18 rfl (lv_at hl 0 rfl) ?_
      refine lv_iload_n hx hb dX3_isWrong_19 rfl (lv_at hl 1 rfl) ?_
      refine lv_iload_n hx hb dX3_isWrong_20 rfl (lv_at hl 2 rfl) ?_
      refine q_V (As := [.int (nI t), .int (nI r)]) (rest := []) ⟨hx, hb, hml, hown, hts⟩ (c_X3_markOf l g q S t r (by omega) (by omega)) (cwV 2 hts gX3_isWrong_X3_markOf rfl rfl rfl (by decide +kernel) ⟨Nat.le_of_ble_eq_true rfl, Nat.le_of_ble_eq_true rfl⟩) q_B_blind (va_recv hK hP (ci := 2) (q0 := 0) rfl rfl) (q_B_of hP hK hN) rfl hl.1 rfl (Nat.le_of_ble_eq_true rfl) dX3_isWrong_21 (Nat.zero_le _) (Nat.zero_le _) ?_
      refine lv_aload_n hx hb dX3_isWrong_24 rfl (lv_at hl 0 rfl) ?_
      refine lv_iload_n hx hb dX3_isWrong_25 rfl (lv_at hl 1 rfl) ?_
      refine lv_iload_n hx hb dX3_isWrong_26 rfl (lv_at hl 2 rfl) ?_
      refine q_V (As := [.int (nI t), .int (nI r)]) (rest := [.int (s_mar S (t * 8 + r))]) ⟨hx, hb, hml, hown, hts⟩ (c_X3_trueMark l g q S t r (by omega) (by omega)) (cwV 2 hts gX3_isWrong_X3_trueMark rfl rfl rfl (by decide +kernel) ⟨Nat.le_of_ble_eq_true rfl, Nat.le_of_ble_eq_true rfl⟩) q_B_blind (va_recv hK hP (ci := 2) (q0 := 0) rfl rfl) (q_B_of hP hK hN) rfl hl.1 rfl (Nat.le_of_ble_eq_true rfl) dX3_isWrong_27 (Nat.zero_le _) (Nat.zero_le _) ?_
      refine lv_icmp_eq (tgt := 37) hx hb dX3_isWrong_30 (by decide) (fun c_30 => ?_) (fun c_30 => ?_)
      · skip
        refine lv_iconst (v := 0) hx hb dX3_isWrong_37 (by decide) ?_
        exact q_zret hx hb hr hlk dX3_isWrong_38 (by first | rfl | simp [wroS, bI, c_6, c_15, c_30])
      · skip
        refine lv_iconst (v := 1) hx hb dX3_isWrong_33 (by decide) ?_
        refine lv_goto (tgt := 38) hx hb dX3_isWrong_34 (by decide) ?_
        exact q_zret hx hb hr hlk dX3_isWrong_38 (by first | rfl | simp [wroS, bI, c_6, c_15, c_30])
