set_option maxHeartbeats 4000000 in
set_option maxRecDepth 100000 in
theorem c_J6_bitCount_0f7a4 (l : Launch) (x : Int32) : q_PM l yJ6_bitCount_0f7a4 wsJ6_bitCount_0f7a4 { frames := 0, cells := 0, slots := 0, locals := 0 } [.int x] (fun _ => True) (.int (popc x)) := by
  refine q_pm (cc := cJ6_bitCount_0f7a4) (maxL := 1) (ret := (some .int)) (by decide) rfl (Nat.le_of_ble_eq_true rfl) ?_
  intro p e s m args below meth c ls hx hb hml hown hts hr hlk _ hl
  have hl : lv_has ls 1 [(0, .int x)] := hl
  refine lv_iload_n hx hb dJ6_bitCount_0f7a4_0 rfl (lv_at hl 0 rfl) ?_
  refine lv_iload_n hx hb dJ6_bitCount_0f7a4_1 rfl (lv_at hl 0 rfl) ?_
  refine lv_iconst (v := 1) hx hb dJ6_bitCount_0f7a4_2 (by decide) ?_
  refine lv_iushr (v := (x.toUInt32 >>> ((1 : Int32).toUInt32 &&& Int32.toUInt32 31)).toInt32) hx hb dJ6_bitCount_0f7a4_3 rfl ?_
  refine lv_ldcw (v := 1431655765) hx hb hown (hts (.constant RJ6 265 (1431655765)) (by decide +kernel)) dJ6_bitCount_0f7a4_4 ?_
  refine lv_iand hx hb dJ6_bitCount_0f7a4_7 ?_
  refine lv_isub hx hb dJ6_bitCount_0f7a4_8 ?_
  refine lv_istore_n (lv' := [(0, .int (x - (((x.toUInt32 >>> ((1 : Int32).toUInt32 &&& Int32.toUInt32 31)).toInt32) &&& 1431655765)))]) hx hb dJ6_bitCount_0f7a4_9 rfl hl (by decide) rfl (fun ls hl => ?_)
  refine lv_iload_n hx hb dJ6_bitCount_0f7a4_10 rfl (lv_at hl 0 rfl) ?_
  refine lv_ldcw (v := 858993459) hx hb hown (hts (.constant RJ6 266 (858993459)) (by decide +kernel)) dJ6_bitCount_0f7a4_11 ?_
  refine lv_iand hx hb dJ6_bitCount_0f7a4_14 ?_
  refine lv_iload_n hx hb dJ6_bitCount_0f7a4_15 rfl (lv_at hl 0 rfl) ?_
  refine lv_iconst (v := 2) hx hb dJ6_bitCount_0f7a4_16 (by decide) ?_
  refine lv_iushr (v := ((x - (((x.toUInt32 >>> ((1 : Int32).toUInt32 &&& Int32.toUInt32 31)).toInt32) &&& 1431655765)).toUInt32 >>> ((2 : Int32).toUInt32 &&& Int32.toUInt32 31)).toInt32) hx hb dJ6_bitCount_0f7a4_17 rfl ?_
  refine lv_ldcw (v := 858993459) hx hb hown (hts (.constant RJ6 266 (858993459)) (by decide +kernel)) dJ6_bitCount_0f7a4_18 ?_
  refine lv_iand hx hb dJ6_bitCount_0f7a4_21 ?_
  refine lv_iadd hx hb dJ6_bitCount_0f7a4_22 ?_
  refine lv_istore_n (lv' := [(0, .int (((x - (((x.toUInt32 >>> ((1 : Int32).toUInt32 &&& Int32.toUInt32 31)).toInt32) &&& 1431655765)) &&& 858993459) + ((((x - (((x.toUInt32 >>> ((1 : Int32).toUInt32 &&& Int32.toUInt32 31)).toInt32) &&& 1431655765)).toUInt32 >>> ((2 : Int32).toUInt32 &&& Int32.toUInt32 31)).toInt32) &&& 858993459)))]) hx hb dJ6_bitCount_0f7a4_23 rfl hl (by decide) rfl (fun ls hl => ?_)
  refine lv_iload_n hx hb dJ6_bitCount_0f7a4_24 rfl (lv_at hl 0 rfl) ?_
  refine lv_iload_n hx hb dJ6_bitCount_0f7a4_25 rfl (lv_at hl 0 rfl) ?_
  refine lv_iconst (v := 4) hx hb dJ6_bitCount_0f7a4_26 (by decide) ?_
  refine lv_iushr (v := ((((x - (((x.toUInt32 >>> ((1 : Int32).toUInt32 &&& Int32.toUInt32 31)).toInt32) &&& 1431655765)) &&& 858993459) + ((((x - (((x.toUInt32 >>> ((1 : Int32).toUInt32 &&& Int32.toUInt32 31)).toInt32) &&& 1431655765)).toUInt32 >>> ((2 : Int32).toUInt32 &&& Int32.toUInt32 31)).toInt32) &&& 858993459)).toUInt32 >>> ((4 : Int32).toUInt32 &&& Int32.toUInt32 31)).toInt32) hx hb dJ6_bitCount_0f7a4_27 rfl ?_
  refine lv_iadd hx hb dJ6_bitCount_0f7a4_28 ?_
  refine lv_ldcw (v := 252645135) hx hb hown (hts (.constant RJ6 267 (252645135)) (by decide +kernel)) dJ6_bitCount_0f7a4_29 ?_
  refine lv_iand hx hb dJ6_bitCount_0f7a4_32 ?_
  refine lv_istore_n (lv' := [(0, .int (((((x - (((x.toUInt32 >>> ((1 : Int32).toUInt32 &&& Int32.toUInt32 31)).toInt32) &&& 1431655765)) &&& 858993459) + ((((x - (((x.toUInt32 >>> ((1 : Int32).toUInt32 &&& Int32.toUInt32 31)).toInt32) &&& 1431655765)).toUInt32 >>> ((2 : Int32).toUInt32 &&& Int32.toUInt32 31)).toInt32) &&& 858993459)) + (((((x - (((x.toUInt32 >>> ((1 : Int32).toUInt32 &&& Int32.toUInt32 31)).toInt32) &&& 1431655765)) &&& 858993459) + ((((x - (((x.toUInt32 >>> ((1 : Int32).toUInt32 &&& Int32.toUInt32 31)).toInt32) &&& 1431655765)).toUInt32 >>> ((2 : Int32).toUInt32 &&& Int32.toUInt32 31)).toInt32) &&& 858993459)).toUInt32 >>> ((4 : Int32).toUInt32 &&& Int32.toUInt32 31)).toInt32)) &&& 252645135))]) hx hb dJ6_bitCount_0f7a4_33 rfl hl (by decide) rfl (fun ls hl => ?_)
  refine lv_iload_n hx hb dJ6_bitCount_0f7a4_34 rfl (lv_at hl 0 rfl) ?_
  refine lv_iload_n hx hb dJ6_bitCount_0f7a4_35 rfl (lv_at hl 0 rfl) ?_
  refine lv_bipush (v := 8) hx hb dJ6_bitCount_0f7a4_36 (by decide) ?_
  refine lv_iushr (v := ((((((x - (((x.toUInt32 >>> ((1 : Int32).toUInt32 &&& Int32.toUInt32 31)).toInt32) &&& 1431655765)) &&& 858993459) + ((((x - (((x.toUInt32 >>> ((1 : Int32).toUInt32 &&& Int32.toUInt32 31)).toInt32) &&& 1431655765)).toUInt32 >>> ((2 : Int32).toUInt32 &&& Int32.toUInt32 31)).toInt32) &&& 858993459)) + (((((x - (((x.toUInt32 >>> ((1 : Int32).toUInt32 &&& Int32.toUInt32 31)).toInt32) &&& 1431655765)) &&& 858993459) + ((((x - (((x.toUInt32 >>> ((1 : Int32).toUInt32 &&& Int32.toUInt32 31)).toInt32) &&& 1431655765)).toUInt32 >>> ((2 : Int32).toUInt32 &&& Int32.toUInt32 31)).toInt32) &&& 858993459)).toUInt32 >>> ((4 : Int32).toUInt32 &&& Int32.toUInt32 31)).toInt32)) &&& 252645135).toUInt32 >>> ((8 : Int32).toUInt32 &&& Int32.toUInt32 31)).toInt32) hx hb dJ6_bitCount_0f7a4_38 rfl ?_
  refine lv_iadd hx hb dJ6_bitCount_0f7a4_39 ?_
  refine lv_istore_n (lv' := [(0, .int ((((((x - (((x.toUInt32 >>> ((1 : Int32).toUInt32 &&& Int32.toUInt32 31)).toInt32) &&& 1431655765)) &&& 858993459) + ((((x - (((x.toUInt32 >>> ((1 : Int32).toUInt32 &&& Int32.toUInt32 31)).toInt32) &&& 1431655765)).toUInt32 >>> ((2 : Int32).toUInt32 &&& Int32.toUInt32 31)).toInt32) &&& 858993459)) + (((((x - (((x.toUInt32 >>> ((1 : Int32).toUInt32 &&& Int32.toUInt32 31)).toInt32) &&& 1431655765)) &&& 858993459) + ((((x - (((x.toUInt32 >>> ((1 : Int32).toUInt32 &&& Int32.toUInt32 31)).toInt32) &&& 1431655765)).toUInt32 >>> ((2 : Int32).toUInt32 &&& Int32.toUInt32 31)).toInt32) &&& 858993459)).toUInt32 >>> ((4 : Int32).toUInt32 &&& Int32.toUInt32 31)).toInt32)) &&& 252645135) + (((((((x - (((x.toUInt32 >>> ((1 : Int32).toUInt32 &&& Int32.toUInt32 31)).toInt32) &&& 1431655765)) &&& 858993459) + ((((x - (((x.toUInt32 >>> ((1 : Int32).toUInt32 &&& Int32.toUInt32 31)).toInt32) &&& 1431655765)).toUInt32 >>> ((2 : Int32).toUInt32 &&& Int32.toUInt32 31)).toInt32) &&& 858993459)) + (((((x - (((x.toUInt32 >>> ((1 : Int32).toUInt32 &&& Int32.toUInt32 31)).toInt32) &&& 1431655765)) &&& 858993459) + ((((x - (((x.toUInt32 >>> ((1 : Int32).toUInt32 &&& Int32.toUInt32 31)).toInt32) &&& 1431655765)).toUInt32 >>> ((2 : Int32).toUInt32 &&& Int32.toUInt32 31)).toInt32) &&& 858993459)).toUInt32 >>> ((4 : Int32).toUInt32 &&& Int32.toUInt32 31)).toInt32)) &&& 252645135).toUInt32 >>> ((8 : Int32).toUInt32 &&& Int32.toUInt32 31)).toInt32)))]) hx hb dJ6_bitCount_0f7a4_40 rfl hl (by decide) rfl (fun ls hl => ?_)
  refine lv_iload_n hx hb dJ6_bitCount_0f7a4_41 rfl (lv_at hl 0 rfl) ?_
  refine lv_iload_n hx hb dJ6_bitCount_0f7a4_42 rfl (lv_at hl 0 rfl) ?_
  refine lv_bipush (v := 16) hx hb dJ6_bitCount_0f7a4_43 (by decide) ?_
  refine lv_iushr (v := (((((((x - (((x.toUInt32 >>> ((1 : Int32).toUInt32 &&& Int32.toUInt32 31)).toInt32) &&& 1431655765)) &&& 858993459) + ((((x - (((x.toUInt32 >>> ((1 : Int32).toUInt32 &&& Int32.toUInt32 31)).toInt32) &&& 1431655765)).toUInt32 >>> ((2 : Int32).toUInt32 &&& Int32.toUInt32 31)).toInt32) &&& 858993459)) + (((((x - (((x.toUInt32 >>> ((1 : Int32).toUInt32 &&& Int32.toUInt32 31)).toInt32) &&& 1431655765)) &&& 858993459) + ((((x - (((x.toUInt32 >>> ((1 : Int32).toUInt32 &&& Int32.toUInt32 31)).toInt32) &&& 1431655765)).toUInt32 >>> ((2 : Int32).toUInt32 &&& Int32.toUInt32 31)).toInt32) &&& 858993459)).toUInt32 >>> ((4 : Int32).toUInt32 &&& Int32.toUInt32 31)).toInt32)) &&& 252645135) + (((((((x - (((x.toUInt32 >>> ((1 : Int32).toUInt32 &&& Int32.toUInt32 31)).toInt32) &&& 1431655765)) &&& 858993459) + ((((x - (((x.toUInt32 >>> ((1 : Int32).toUInt32 &&& Int32.toUInt32 31)).toInt32) &&& 1431655765)).toUInt32 >>> ((2 : Int32).toUInt32 &&& Int32.toUInt32 31)).toInt32) &&& 858993459)) + (((((x - (((x.toUInt32 >>> ((1 : Int32).toUInt32 &&& Int32.toUInt32 31)).toInt32) &&& 1431655765)) &&& 858993459) + ((((x - (((x.toUInt32 >>> ((1 : Int32).toUInt32 &&& Int32.toUInt32 31)).toInt32) &&& 1431655765)).toUInt32 >>> ((2 : Int32).toUInt32 &&& Int32.toUInt32 31)).toInt32) &&& 858993459)).toUInt32 >>> ((4 : Int32).toUInt32 &&& Int32.toUInt32 31)).toInt32)) &&& 252645135).toUInt32 >>> ((8 : Int32).toUInt32 &&& Int32.toUInt32 31)).toInt32)).toUInt32 >>> ((16 : Int32).toUInt32 &&& Int32.toUInt32 31)).toInt32) hx hb dJ6_bitCount_0f7a4_45 rfl ?_
  refine lv_iadd hx hb dJ6_bitCount_0f7a4_46 ?_
  refine lv_istore_n (lv' := [(0, .int (((((((x - (((x.toUInt32 >>> ((1 : Int32).toUInt32 &&& Int32.toUInt32 31)).toInt32) &&& 1431655765)) &&& 858993459) + ((((x - (((x.toUInt32 >>> ((1 : Int32).toUInt32 &&& Int32.toUInt32 31)).toInt32) &&& 1431655765)).toUInt32 >>> ((2 : Int32).toUInt32 &&& Int32.toUInt32 31)).toInt32) &&& 858993459)) + (((((x - (((x.toUInt32 >>> ((1 : Int32).toUInt32 &&& Int32.toUInt32 31)).toInt32) &&& 1431655765)) &&& 858993459) + ((((x - (((x.toUInt32 >>> ((1 : Int32).toUInt32 &&& Int32.toUInt32 31)).toInt32) &&& 1431655765)).toUInt32 >>> ((2 : Int32).toUInt32 &&& Int32.toUInt32 31)).toInt32) &&& 858993459)).toUInt32 >>> ((4 : Int32).toUInt32 &&& Int32.toUInt32 31)).toInt32)) &&& 252645135) + (((((((x - (((x.toUInt32 >>> ((1 : Int32).toUInt32 &&& Int32.toUInt32 31)).toInt32) &&& 1431655765)) &&& 858993459) + ((((x - (((x.toUInt32 >>> ((1 : Int32).toUInt32 &&& Int32.toUInt32 31)).toInt32) &&& 1431655765)).toUInt32 >>> ((2 : Int32).toUInt32 &&& Int32.toUInt32 31)).toInt32) &&& 858993459)) + (((((x - (((x.toUInt32 >>> ((1 : Int32).toUInt32 &&& Int32.toUInt32 31)).toInt32) &&& 1431655765)) &&& 858993459) + ((((x - (((x.toUInt32 >>> ((1 : Int32).toUInt32 &&& Int32.toUInt32 31)).toInt32) &&& 1431655765)).toUInt32 >>> ((2 : Int32).toUInt32 &&& Int32.toUInt32 31)).toInt32) &&& 858993459)).toUInt32 >>> ((4 : Int32).toUInt32 &&& Int32.toUInt32 31)).toInt32)) &&& 252645135).toUInt32 >>> ((8 : Int32).toUInt32 &&& Int32.toUInt32 31)).toInt32)) + ((((((((x - (((x.toUInt32 >>> ((1 : Int32).toUInt32 &&& Int32.toUInt32 31)).toInt32) &&& 1431655765)) &&& 858993459) + ((((x - (((x.toUInt32 >>> ((1 : Int32).toUInt32 &&& Int32.toUInt32 31)).toInt32) &&& 1431655765)).toUInt32 >>> ((2 : Int32).toUInt32 &&& Int32.toUInt32 31)).toInt32) &&& 858993459)) + (((((x - (((x.toUInt32 >>> ((1 : Int32).toUInt32 &&& Int32.toUInt32 31)).toInt32) &&& 1431655765)) &&& 858993459) + ((((x - (((x.toUInt32 >>> ((1 : Int32).toUInt32 &&& Int32.toUInt32 31)).toInt32) &&& 1431655765)).toUInt32 >>> ((2 : Int32).toUInt32 &&& Int32.toUInt32 31)).toInt32) &&& 858993459)).toUInt32 >>> ((4 : Int32).toUInt32 &&& Int32.toUInt32 31)).toInt32)) &&& 252645135) + (((((((x - (((x.toUInt32 >>> ((1 : Int32).toUInt32 &&& Int32.toUInt32 31)).toInt32) &&& 1431655765)) &&& 858993459) + ((((x - (((x.toUInt32 >>> ((1 : Int32).toUInt32 &&& Int32.toUInt32 31)).toInt32) &&& 1431655765)).toUInt32 >>> ((2 : Int32).toUInt32 &&& Int32.toUInt32 31)).toInt32) &&& 858993459)) + (((((x - (((x.toUInt32 >>> ((1 : Int32).toUInt32 &&& Int32.toUInt32 31)).toInt32) &&& 1431655765)) &&& 858993459) + ((((x - (((x.toUInt32 >>> ((1 : Int32).toUInt32 &&& Int32.toUInt32 31)).toInt32) &&& 1431655765)).toUInt32 >>> ((2 : Int32).toUInt32 &&& Int32.toUInt32 31)).toInt32) &&& 858993459)).toUInt32 >>> ((4 : Int32).toUInt32 &&& Int32.toUInt32 31)).toInt32)) &&& 252645135).toUInt32 >>> ((8 : Int32).toUInt32 &&& Int32.toUInt32 31)).toInt32)).toUInt32 >>> ((16 : Int32).toUInt32 &&& Int32.toUInt32 31)).toInt32)))]) hx hb dJ6_bitCount_0f7a4_47 rfl hl (by decide) rfl (fun ls hl => ?_)
  refine lv_iload_n hx hb dJ6_bitCount_0f7a4_48 rfl (lv_at hl 0 rfl) ?_
  refine lv_bipush (v := 63) hx hb dJ6_bitCount_0f7a4_49 (by decide) ?_
  refine lv_iand hx hb dJ6_bitCount_0f7a4_51 ?_
  exact q_iret hx hb hr hlk dJ6_bitCount_0f7a4_52 (rfl)

set_option maxHeartbeats 4000000 in
set_option maxRecDepth 100000 in
theorem c_X3_openRounds (l : Launch) (g : q_G) (q : Nat → Nat) (S : q_St) : q_PM l yX3_openRounds wsX3_openRounds { frames := 1, cells := 0, slots := 0, locals := 21 } [.ref (q 0)] (q_B g (q_stW g q S)) (.int (q_or (isOp S) 8)) := by
  refine q_pm (cc := cX3_openRounds) (maxL := 3) (ret := (some .int)) (by decide) rfl (Nat.le_of_ble_eq_true rfl) ?_
  intro p e s m args below meth c ls hx hb hml hown hts hr hlk hB hl
  obtain ⟨hP, hK, hN⟩ := hB
  have hl : lv_has ls 3 [(0, .ref (q 0))] := hl
  refine lv_iconst (v := 0) hx hb dX3_openRounds_0 (by decide) ?_
  refine lv_istore_n (lv' := [(1, .int 0), (0, .ref (q 0))]) hx hb dX3_openRounds_1 rfl hl (by decide) rfl (fun ls hl => ?_)
  refine lv_iconst (v := 0) hx hb dX3_openRounds_2 (by decide) ?_
  refine lv_istore_n (lv' := [(2, .int 0), (1, .int 0), (0, .ref (q 0))]) hx hb dX3_openRounds_3 rfl hl (by decide) rfl (fun ls hl => ?_)
  have L_4 : ∀ (n i4 : Nat) (y1_4 : Int32), y1_4 = q_or (isOp S) i4 → i4 ≤ 8 → 8 < i4 + n → ∀ ls : Array Slot, lv_has ls 3 [(2, .int (nI i4)), (1, .int y1_4), (0, .ref (q 0))] → W p l e { frames := 1, cells := 0, slots := 0, locals := 21 } s m args below meth c s.heap [] 0 0 (MQ below (k2_QcV (.int (q_or (isOp S) 8))) args s 0 0 (fun _ => False)) (F0 m 4 ls []) := by
    intro n
    induction n with
    | zero => intro i4 y1_4 ey1_4 hi_i4 hn_i4; exact absurd hn_i4 (by omega)
    | succ n ih_i4 =>
      intro i4 y1_4 ey1_4 hi_i4 hn_i4 ls hl
      subst ey1_4
      refine lv_iload_n hx hb dX3_openRounds_4 rfl (lv_at hl 0 rfl) ?_
      refine lv_bipush (v := 8) hx hb dX3_openRounds_5 (by decide) ?_
      refine lv_icmp_ge (tgt := 34) hx hb dX3_openRounds_7 (by decide) (fun c_7 => ?_) (fun c_7 => ?_)
      · skip
        have e_7 : i4 = 8 := q_ge_T (by omega) hi_i4 c_7
        subst e_7
        refine lv_iload_n hx hb dX3_openRounds_34 rfl (lv_at hl 1 rfl) ?_
        exact q_iret hx hb hr hlk dX3_openRounds_35 (rfl)
      · skip
        have lt_i4 : i4 < 8 := q_ge_F (by omega) hi_i4 c_7
        refine lv_iload_n hx hb dX3_openRounds_10 rfl (lv_at hl 1 rfl) ?_
        refine lv_aload_n hx hb dX3_openRounds_11 rfl (lv_at hl 2 rfl) ?_
        refine lv_iload_n hx hb dX3_openRounds_12 rfl (lv_at hl 0 rfl) ?_
        refine q_V (As := [.int (nI i4)]) (rest := [.int (q_or (isOp S) i4)]) ⟨hx, hb, hml, hown, hts⟩ (c_X3_isOpen l g q S i4 (by omega)) (cwV 1 hts gX3_openRounds_X3_isOpen rfl rfl rfl (by decide +kernel) ⟨Nat.le_of_ble_eq_true rfl, Nat.le_of_ble_eq_true rfl⟩) q_B_blind (va_recv hK hP (ci := 2) (q0 := 0) rfl rfl) (q_B_of hP hK hN) rfl hl.1 rfl (Nat.le_of_ble_eq_true rfl) dX3_openRounds_13 (Nat.zero_le _) (Nat.zero_le _) ?_
        refine lv_if_eq (tgt := 25) hx hb dX3_openRounds_16 (by decide) (fun c_16 => ?_) (fun c_16 => ?_)
        · skip
          have c_16 : (isOp S i4) = false := bI_eq c_16
          refine lv_iconst (v := 0) hx hb dX3_openRounds_25 (by decide) ?_
          refine lv_ior hx hb dX3_openRounds_26 ?_
          refine lv_istore_n (lv' := [(1, .int ((q_or (isOp S) i4) ||| 0)), (2, .int (nI i4)), (0, .ref (q 0))]) hx hb dX3_openRounds_27 rfl hl (by decide) rfl (fun ls hl => ?_)
          refine lv_iinc (v := nI (i4 + 1)) (lv' := [(2, .int (nI (i4 + 1))), (1, .int ((q_or (isOp S) i4) ||| 0)), (0, .ref (q 0))]) hx hb dX3_openRounds_28 hl (k := 1) rfl (nI_1 _) (by decide) rfl (fun ls hl => ?_)
          refine lv_goto (tgt := 4) hx hb dX3_openRounds_31 (by decide) ?_
          exact ih_i4 (i4 + 1) ((q_or (isOp S) i4) ||| 0) (by first | rfl | simp [q_acc, q_or, q_cnt, q_any, nI_1, c_16]) lt_i4 (by omega) ls (lv_sub hl [0, 1, 2] rfl)
        · skip
          have c_16 : (isOp S i4) = true := bI_ne c_16
          refine lv_iconst (v := 1) hx hb dX3_openRounds_19 (by decide) ?_
          refine lv_iload_n hx hb dX3_openRounds_20 rfl (lv_at hl 0 rfl) ?_
          refine lv_ishl hx hb dX3_openRounds_21 ?_
          refine lv_goto (tgt := 26) hx hb dX3_openRounds_22 (by decide) ?_
          refine lv_ior hx hb dX3_openRounds_26 ?_
          refine lv_istore_n (lv' := [(1, .int ((q_or (isOp S) i4) ||| (1 <<< ((nI i4) &&& 31)))), (2, .int (nI i4)), (0, .ref (q 0))]) hx hb dX3_openRounds_27 rfl hl (by decide) rfl (fun ls hl => ?_)
          refine lv_iinc (v := nI (i4 + 1)) (lv' := [(2, .int (nI (i4 + 1))), (1, .int ((q_or (isOp S) i4) ||| (1 <<< ((nI i4) &&& 31)))), (0, .ref (q 0))]) hx hb dX3_openRounds_28 hl (k := 1) rfl (nI_1 _) (by decide) rfl (fun ls hl => ?_)
          refine lv_goto (tgt := 4) hx hb dX3_openRounds_31 (by decide) ?_
          exact ih_i4 (i4 + 1) ((q_or (isOp S) i4) ||| (1 <<< ((nI i4) &&& 31))) (by first | rfl | simp [q_acc, q_or, q_cnt, q_any, nI_1, c_16]) lt_i4 (by omega) ls (lv_sub hl [0, 1, 2] rfl)
  exact L_4 (8 + 1) 0 0 (rfl) (Nat.zero_le _) (by omega) ls (lv_sub hl [0, 1, 2] rfl)

set_option maxHeartbeats 4000000 in
set_option maxRecDepth 100000 in
theorem c_X3_roundsWithSheet (l : Launch) (g : q_G) (q : Nat → Nat) (S : q_St) (t : Nat) (h1_ : t < 10) : q_PM l yX3_roundsWithSheet wsX3_roundsWithSheet { frames := 2, cells := 0, slots := 0, locals := 43 } [.ref (q 0), .int (nI t)] (q_B g (q_stW g q S)) (.int (q_or (hasS S t) 8)) := by
  refine q_pm (cc := cX3_roundsWithSheet) (maxL := 4) (ret := (some .int)) (by decide) rfl (Nat.le_of_ble_eq_true rfl) ?_
  intro p e s m args below meth c ls hx hb hml hown hts hr hlk hB hl
  obtain ⟨hP, hK, hN⟩ := hB
  have hl : lv_has ls 4 [(0, .ref (q 0)), (1, .int (nI t))] := hl
  refine lv_iconst (v := 0) hx hb dX3_roundsWithSheet_0 (by decide) ?_
  refine lv_istore_n (lv' := [(2, .int 0), (0, .ref (q 0)), (1, .int (nI t))]) hx hb dX3_roundsWithSheet_1 rfl hl (by decide) rfl (fun ls hl => ?_)
  refine lv_iconst (v := 0) hx hb dX3_roundsWithSheet_2 (by decide) ?_
  refine lv_istore_n (lv' := [(3, .int 0), (2, .int 0), (0, .ref (q 0)), (1, .int (nI t))]) hx hb dX3_roundsWithSheet_3 rfl hl (by decide) rfl (fun ls hl => ?_)
  have L_4 : ∀ (n i4 : Nat) (y2_4 : Int32), y2_4 = q_or (hasS S t) i4 → i4 ≤ 8 → 8 < i4 + n → ∀ ls : Array Slot, lv_has ls 4 [(3, .int (nI i4)), (2, .int y2_4), (0, .ref (q 0)), (1, .int (nI t))] → W p l e { frames := 2, cells := 0, slots := 0, locals := 43 } s m args below meth c s.heap [] 0 0 (MQ below (k2_QcV (.int (q_or (hasS S t) 8))) args s 0 0 (fun _ => False)) (F0 m 4 ls []) := by
    intro n
    induction n with
    | zero => intro i4 y2_4 ey2_4 hi_i4 hn_i4; exact absurd hn_i4 (by omega)
    | succ n ih_i4 =>
      intro i4 y2_4 ey2_4 hi_i4 hn_i4 ls hl
      subst ey2_4
      refine lv_iload_n hx hb dX3_roundsWithSheet_4 rfl (lv_at hl 0 rfl) ?_
      refine lv_bipush (v := 8) hx hb dX3_roundsWithSheet_5 (by decide) ?_
      refine lv_icmp_ge (tgt := 35) hx hb dX3_roundsWithSheet_7 (by decide) (fun c_7 => ?_) (fun c_7 => ?_)
      · skip
        have e_7 : i4 = 8 := q_ge_T (by omega) hi_i4 c_7
        subst e_7
        refine lv_iload_n hx hb dX3_roundsWithSheet_35 rfl (lv_at hl 1 rfl) ?_
        exact q_iret hx hb hr hlk dX3_roundsWithSheet_36 (rfl)
      · skip
        have lt_i4 : i4 < 8 := q_ge_F (by omega) hi_i4 c_7
        refine lv_iload_n hx hb dX3_roundsWithSheet_10 rfl (lv_at hl 1 rfl) ?_
        refine lv_aload_n hx hb dX3_roundsWithSheet_11 rfl (lv_at hl 2 rfl) ?_
        refine lv_iload_n hx hb dX3_roundsWithSheet_12 rfl (lv_at hl 3 rfl) ?_
        refine lv_iload_n hx hb dX3_roundsWithSheet_13 rfl (lv_at hl 0 rfl) ?_
        refine q_V (As := [.int (nI t), .int (nI i4)]) (rest := [.int (q_or (hasS S t) i4)]) ⟨hx, hb, hml, hown, hts⟩ (c_X3_hasSheet l g q S t i4 (by omega) (by omega)) (cwV 2 hts gX3_roundsWithSheet_X3_hasSheet rfl rfl rfl (by decide +kernel) ⟨Nat.le_of_ble_eq_true rfl, Nat.le_of_ble_eq_true rfl⟩) q_B_blind (va_recv hK hP (ci := 2) (q0 := 0) rfl rfl) (q_B_of hP hK hN) rfl hl.1 rfl (Nat.le_of_ble_eq_true rfl) dX3_roundsWithSheet_14 (Nat.zero_le _) (Nat.zero_le _) ?_
        refine lv_if_eq (tgt := 26) hx hb dX3_roundsWithSheet_17 (by decide) (fun c_17 => ?_) (fun c_17 => ?_)
        · skip
          have c_17 : (hasS S t i4) = false := bI_eq c_17
          refine lv_iconst (v := 0) hx hb dX3_roundsWithSheet_26 (by decide) ?_
          refine lv_ior hx hb dX3_roundsWithSheet_27 ?_
          refine lv_istore_n (lv' := [(2, .int ((q_or (hasS S t) i4) ||| 0)), (3, .int (nI i4)), (0, .ref (q 0)), (1, .int (nI t))]) hx hb dX3_roundsWithSheet_28 rfl hl (by decide) rfl (fun ls hl => ?_)
          refine lv_iinc (v := nI (i4 + 1)) (lv' := [(3, .int (nI (i4 + 1))), (2, .int ((q_or (hasS S t) i4) ||| 0)), (0, .ref (q 0)), (1, .int (nI t))]) hx hb dX3_roundsWithSheet_29 hl (k := 1) rfl (nI_1 _) (by decide) rfl (fun ls hl => ?_)
          refine lv_goto (tgt := 4) hx hb dX3_roundsWithSheet_32 (by decide) ?_
          exact ih_i4 (i4 + 1) ((q_or (hasS S t) i4) ||| 0) (by first | rfl | simp [q_acc, q_or, q_cnt, q_any, nI_1, c_17]) lt_i4 (by omega) ls (lv_sub hl [0, 1, 2, 3] rfl)
        · skip
          have c_17 : (hasS S t i4) = true := bI_ne c_17
          refine lv_iconst (v := 1) hx hb dX3_roundsWithSheet_20 (by decide) ?_
          refine lv_iload_n hx hb dX3_roundsWithSheet_21 rfl (lv_at hl 0 rfl) ?_
          refine lv_ishl hx hb dX3_roundsWithSheet_22 ?_
          refine lv_goto (tgt := 27) hx hb dX3_roundsWithSheet_23 (by decide) ?_
          refine lv_ior hx hb dX3_roundsWithSheet_27 ?_
          refine lv_istore_n (lv' := [(2, .int ((q_or (hasS S t) i4) ||| (1 <<< ((nI i4) &&& 31)))), (3, .int (nI i4)), (0, .ref (q 0)), (1, .int (nI t))]) hx hb dX3_roundsWithSheet_28 rfl hl (by decide) rfl (fun ls hl => ?_)
          refine lv_iinc (v := nI (i4 + 1)) (lv' := [(3, .int (nI (i4 + 1))), (2, .int ((q_or (hasS S t) i4) ||| (1 <<< ((nI i4) &&& 31)))), (0, .ref (q 0)), (1, .int (nI t))]) hx hb dX3_roundsWithSheet_29 hl (k := 1) rfl (nI_1 _) (by decide) rfl (fun ls hl => ?_)
          refine lv_goto (tgt := 4) hx hb dX3_roundsWithSheet_32 (by decide) ?_
          exact ih_i4 (i4 + 1) ((q_or (hasS S t) i4) ||| (1 <<< ((nI i4) &&& 31))) (by first | rfl | simp [q_acc, q_or, q_cnt, q_any, nI_1, c_17]) lt_i4 (by omega) ls (lv_sub hl [0, 1, 2, 3] rfl)
  exact L_4 (8 + 1) 0 0 (rfl) (Nat.zero_le _) (by omega) ls (lv_sub hl [0, 1, 2, 3] rfl)

set_option maxHeartbeats 4000000 in
set_option maxRecDepth 100000 in
theorem c_X3_roundsTold (l : Launch) (g : q_G) (q : Nat → Nat) (S : q_St) (t : Nat) (h1_ : t < 10) : q_PM l yX3_roundsTold wsX3_roundsTold { frames := 3, cells := 0, slots := 0, locals := 65 } [.ref (q 0), .int (nI t)] (q_B g (q_stW g q S)) (.int (q_or (tldS S t) 8)) := by
  refine q_pm (cc := cX3_roundsTold) (maxL := 4) (ret := (some .int)) (by decide) rfl (Nat.le_of_ble_eq_true rfl) ?_
  intro p e s m args below meth c ls hx hb hml hown hts hr hlk hB hl
  obtain ⟨hP, hK, hN⟩ := hB
  have hl : lv_has ls 4 [(0, .ref (q 0)), (1, .int (nI t))] := hl
  refine lv_iconst (v := 0) hx hb dX3_roundsTold_0 (by decide) ?_
  refine lv_istore_n (lv' := [(2, .int 0), (0, .ref (q 0)), (1, .int (nI t))]) hx hb dX3_roundsTold_1 rfl hl (by decide) rfl (fun ls hl => ?_)
  refine lv_iconst (v := 0) hx hb dX3_roundsTold_2 (by decide) ?_
  refine lv_istore_n (lv' := [(3, .int 0), (2, .int 0), (0, .ref (q 0)), (1, .int (nI t))]) hx hb dX3_roundsTold_3 rfl hl (by decide) rfl (fun ls hl => ?_)
  have L_4 : ∀ (n i4 : Nat) (y2_4 : Int32), y2_4 = q_or (tldS S t) i4 → i4 ≤ 8 → 8 < i4 + n → ∀ ls : Array Slot, lv_has ls 4 [(3, .int (nI i4)), (2, .int y2_4), (0, .ref (q 0)), (1, .int (nI t))] → W p l e { frames := 3, cells := 0, slots := 0, locals := 65 } s m args below meth c s.heap [] 0 0 (MQ below (k2_QcV (.int (q_or (tldS S t) 8))) args s 0 0 (fun _ => False)) (F0 m 4 ls []) := by
    intro n
    induction n with
    | zero => intro i4 y2_4 ey2_4 hi_i4 hn_i4; exact absurd hn_i4 (by omega)
    | succ n ih_i4 =>
      intro i4 y2_4 ey2_4 hi_i4 hn_i4 ls hl
      subst ey2_4
      refine lv_iload_n hx hb dX3_roundsTold_4 rfl (lv_at hl 0 rfl) ?_
      refine lv_bipush (v := 8) hx hb dX3_roundsTold_5 (by decide) ?_
      refine lv_icmp_ge (tgt := 35) hx hb dX3_roundsTold_7 (by decide) (fun c_7 => ?_) (fun c_7 => ?_)
      · skip
        have e_7 : i4 = 8 := q_ge_T (by omega) hi_i4 c_7
        subst e_7
        refine lv_iload_n hx hb dX3_roundsTold_35 rfl (lv_at hl 1 rfl) ?_
        exact q_iret hx hb hr hlk dX3_roundsTold_36 (rfl)
      · skip
        have lt_i4 : i4 < 8 := q_ge_F (by omega) hi_i4 c_7
        refine lv_iload_n hx hb dX3_roundsTold_10 rfl (lv_at hl 1 rfl) ?_
        refine lv_aload_n hx hb dX3_roundsTold_11 rfl (lv_at hl 2 rfl) ?_
        refine lv_iload_n hx hb dX3_roundsTold_12 rfl (lv_at hl 3 rfl) ?_
        refine lv_iload_n hx hb dX3_roundsTold_13 rfl (lv_at hl 0 rfl) ?_
        refine q_V (As := [.int (nI t), .int (nI i4)]) (rest := [.int (q_or (tldS S t) i4)]) ⟨hx, hb, hml, hown, hts⟩ (c_X3_isTold l g q S t i4 (by omega) (by omega)) (cwV 2 hts gX3_roundsTold_X3_isTold rfl rfl rfl (by decide +kernel) ⟨Nat.le_of_ble_eq_true rfl, Nat.le_of_ble_eq_true rfl⟩) q_B_blind (va_recv hK hP (ci := 2) (q0 := 0) rfl rfl) (q_B_of hP hK hN) rfl hl.1 rfl (Nat.le_of_ble_eq_true rfl) dX3_roundsTold_14 (Nat.zero_le _) (Nat.zero_le _) ?_
        refine lv_if_eq (tgt := 26) hx hb dX3_roundsTold_17 (by decide) (fun c_17 => ?_) (fun c_17 => ?_)
        · skip
          have c_17 : (tldS S t i4) = false := bI_eq c_17
          refine lv_iconst (v := 0) hx hb dX3_roundsTold_26 (by decide) ?_
          refine lv_ior hx hb dX3_roundsTold_27 ?_
          refine lv_istore_n (lv' := [(2, .int ((q_or (tldS S t) i4) ||| 0)), (3, .int (nI i4)), (0, .ref (q 0)), (1, .int (nI t))]) hx hb dX3_roundsTold_28 rfl hl (by decide) rfl (fun ls hl => ?_)
          refine lv_iinc (v := nI (i4 + 1)) (lv' := [(3, .int (nI (i4 + 1))), (2, .int ((q_or (tldS S t) i4) ||| 0)), (0, .ref (q 0)), (1, .int (nI t))]) hx hb dX3_roundsTold_29 hl (k := 1) rfl (nI_1 _) (by decide) rfl (fun ls hl => ?_)
          refine lv_goto (tgt := 4) hx hb dX3_roundsTold_32 (by decide) ?_
          exact ih_i4 (i4 + 1) ((q_or (tldS S t) i4) ||| 0) (by first | rfl | simp [q_acc, q_or, q_cnt, q_any, nI_1, c_17]) lt_i4 (by omega) ls (lv_sub hl [0, 1, 2, 3] rfl)
        · skip
          have c_17 : (tldS S t i4) = true := bI_ne c_17
          refine lv_iconst (v := 1) hx hb dX3_roundsTold_20 (by decide) ?_
          refine lv_iload_n hx hb dX3_roundsTold_21 rfl (lv_at hl 0 rfl) ?_
          refine lv_ishl hx hb dX3_roundsTold_22 ?_
          refine lv_goto (tgt := 27) hx hb dX3_roundsTold_23 (by decide) ?_
          refine lv_ior hx hb dX3_roundsTold_27 ?_
          refine lv_istore_n (lv' := [(2, .int ((q_or (tldS S t) i4) ||| (1 <<< ((nI i4) &&& 31)))), (3, .int (nI i4)), (0, .ref (q 0)), (1, .int (nI t))]) hx hb dX3_roundsTold_28 rfl hl (by decide) rfl (fun ls hl => ?_)
          refine lv_iinc (v := nI (i4 + 1)) (lv' := [(3, .int (nI (i4 + 1))), (2, .int ((q_or (tldS S t) i4) ||| (1 <<< ((nI i4) &&& 31)))), (0, .ref (q 0)), (1, .int (nI t))]) hx hb dX3_roundsTold_29 hl (k := 1) rfl (nI_1 _) (by decide) rfl (fun ls hl => ?_)
          refine lv_goto (tgt := 4) hx hb dX3_roundsTold_32 (by decide) ?_
          exact ih_i4 (i4 + 1) ((q_or (tldS S t) i4) ||| (1 <<< ((nI i4) &&& 31))) (by first | rfl | simp [q_acc, q_or, q_cnt, q_any, nI_1, c_17]) lt_i4 (by omega) ls (lv_sub hl [0, 1, 2, 3] rfl)
  exact L_4 (8 + 1) 0 0 (rfl) (Nat.zero_le _) (by omega) ls (lv_sub hl [0, 1, 2, 3] rfl)

set_option maxHeartbeats 4000000 in
set_option maxRecDepth 100000 in
theorem c_X3_teamsWithSheet (l : Launch) (g : q_G) (q : Nat → Nat) (S : q_St) (r : Nat) (h1_ : s_n S ≤ 10) (h2_ : r < 8) : q_PM l yX3_teamsWithSheet wsX3_teamsWithSheet { frames := 2, cells := 0, slots := 0, locals := 43 } [.ref (q 0), .int (nI r)] (q_B g (q_stW g q S)) (.int (q_or (fun t => hasS S t r) (s_n S))) := by
  refine q_pm (cc := cX3_teamsWithSheet) (maxL := 4) (ret := (some .int)) (by decide) rfl (Nat.le_of_ble_eq_true rfl) ?_
  intro p e s m args below meth c ls hx hb hml hown hts hr hlk hB hl
  obtain ⟨hP, hK, hN⟩ := hB
  have fl_66 := hts (.fieldLink RX3 66 "PubQuizzes$State" "teams" "I") (by decide +kernel)
  have hi_X3 : ∀ w ∈ u_ws RX3 TX3 12, w ∈ wsX3_teamsWithSheet := by decide +kernel
  have hl : lv_has ls 4 [(0, .ref (q 0)), (1, .int (nI r))] := hl
  refine lv_iconst (v := 0) hx hb dX3_teamsWithSheet_0 (by decide) ?_
  refine lv_istore_n (lv' := [(2, .int 0), (0, .ref (q 0)), (1, .int (nI r))]) hx hb dX3_teamsWithSheet_1 rfl hl (by decide) rfl (fun ls hl => ?_)
  refine lv_iconst (v := 0) hx hb dX3_teamsWithSheet_2 (by decide) ?_
  refine lv_istore_n (lv' := [(3, .int 0), (2, .int 0), (0, .ref (q 0)), (1, .int (nI r))]) hx hb dX3_teamsWithSheet_3 rfl hl (by decide) rfl (fun ls hl => ?_)
  have L_4 : ∀ (n i4 : Nat) (y2_4 : Int32), y2_4 = q_or (fun t => hasS S t r) i4 → i4 ≤ s_n S → s_n S < i4 + n → ∀ ls : Array Slot, lv_has ls 4 [(3, .int (nI i4)), (2, .int y2_4), (0, .ref (q 0)), (1, .int (nI r))] → W p l e { frames := 2, cells := 0, slots := 0, locals := 43 } s m args below meth c s.heap [] 0 0 (MQ below (k2_QcV (.int (q_or (fun t => hasS S t r) (s_n S)))) args s 0 0 (fun _ => False)) (F0 m 4 ls []) := by
    intro n
    induction n with
    | zero => intro i4 y2_4 ey2_4 hi_i4 hn_i4; exact absurd hn_i4 (by omega)
    | succ n ih_i4 =>
      intro i4 y2_4 ey2_4 hi_i4 hn_i4 ls hl
      subst ey2_4
      refine lv_iload_n hx hb dX3_teamsWithSheet_4 rfl (lv_at hl 0 rfl) ?_
      refine lv_aload_n hx hb dX3_teamsWithSheet_5 rfl (lv_at hl 2 rfl) ?_
      refine va_get (D := g.1) (ci := 2) (v := .int (nI (s_n S))) (C := RX3) (T := TX3) (N := 12) hx hb hts hi_X3 hown hK hP 0 rfl rfl 10 (by decide) fl_66 (fun _ h9 => h9) rfl dX3_teamsWithSheet_6 ?_
      refine lv_icmp_ge (tgt := 37) hx hb dX3_teamsWithSheet_9 (by decide) (fun c_9 => ?_) (fun c_9 => ?_)
      · skip
        have e_9 : i4 = s_n S := q_ge_T (by omega) hi_i4 c_9
        subst e_9
        refine lv_iload_n hx hb dX3_teamsWithSheet_37 rfl (lv_at hl 1 rfl) ?_
        exact q_iret hx hb hr hlk dX3_teamsWithSheet_38 (rfl)
      · skip
        have lt_i4 : i4 < s_n S := q_ge_F (by omega) hi_i4 c_9
        refine lv_iload_n hx hb dX3_teamsWithSheet_12 rfl (lv_at hl 1 rfl) ?_
        refine lv_aload_n hx hb dX3_teamsWithSheet_13 rfl (lv_at hl 2 rfl) ?_
        refine lv_iload_n hx hb dX3_teamsWithSheet_14 rfl (lv_at hl 0 rfl) ?_
        refine lv_iload_n hx hb dX3_teamsWithSheet_15 rfl (lv_at hl 3 rfl) ?_
        refine q_V (As := [.int (nI i4), .int (nI r)]) (rest := [.int (q_or (fun t => hasS S t r) i4)]) ⟨hx, hb, hml, hown, hts⟩ (c_X3_hasSheet l g q S i4 r (by omega) (by omega)) (cwV 2 hts gX3_teamsWithSheet_X3_hasSheet rfl rfl rfl (by decide +kernel) ⟨Nat.le_of_ble_eq_true rfl, Nat.le_of_ble_eq_true rfl⟩) q_B_blind (va_recv hK hP (ci := 2) (q0 := 0) rfl rfl) (q_B_of hP hK hN) rfl hl.1 rfl (Nat.le_of_ble_eq_true rfl) dX3_teamsWithSheet_16 (Nat.zero_le _) (Nat.zero_le _) ?_
        refine lv_if_eq (tgt := 28) hx hb dX3_teamsWithSheet_19 (by decide) (fun c_19 => ?_) (fun c_19 => ?_)
        · skip
          have c_19 : (hasS S i4 r) = false := bI_eq c_19
          refine lv_iconst (v := 0) hx hb dX3_teamsWithSheet_28 (by decide) ?_
          refine lv_ior hx hb dX3_teamsWithSheet_29 ?_
          refine lv_istore_n (lv' := [(2, .int ((q_or (fun t => hasS S t r) i4) ||| 0)), (3, .int (nI i4)), (0, .ref (q 0)), (1, .int (nI r))]) hx hb dX3_teamsWithSheet_30 rfl hl (by decide) rfl (fun ls hl => ?_)
          refine lv_iinc (v := nI (i4 + 1)) (lv' := [(3, .int (nI (i4 + 1))), (2, .int ((q_or (fun t => hasS S t r) i4) ||| 0)), (0, .ref (q 0)), (1, .int (nI r))]) hx hb dX3_teamsWithSheet_31 hl (k := 1) rfl (nI_1 _) (by decide) rfl (fun ls hl => ?_)
          refine lv_goto (tgt := 4) hx hb dX3_teamsWithSheet_34 (by decide) ?_
          exact ih_i4 (i4 + 1) ((q_or (fun t => hasS S t r) i4) ||| 0) (by first | rfl | simp [q_acc, q_or, q_cnt, q_any, nI_1, c_19]) lt_i4 (by omega) ls (lv_sub hl [0, 1, 2, 3] rfl)
        · skip
          have c_19 : (hasS S i4 r) = true := bI_ne c_19
          refine lv_iconst (v := 1) hx hb dX3_teamsWithSheet_22 (by decide) ?_
          refine lv_iload_n hx hb dX3_teamsWithSheet_23 rfl (lv_at hl 0 rfl) ?_
          refine lv_ishl hx hb dX3_teamsWithSheet_24 ?_
          refine lv_goto (tgt := 29) hx hb dX3_teamsWithSheet_25 (by decide) ?_
          refine lv_ior hx hb dX3_teamsWithSheet_29 ?_
          refine lv_istore_n (lv' := [(2, .int ((q_or (fun t => hasS S t r) i4) ||| (1 <<< ((nI i4) &&& 31)))), (3, .int (nI i4)), (0, .ref (q 0)), (1, .int (nI r))]) hx hb dX3_teamsWithSheet_30 rfl hl (by decide) rfl (fun ls hl => ?_)
          refine lv_iinc (v := nI (i4 + 1)) (lv' := [(3, .int (nI (i4 + 1))), (2, .int ((q_or (fun t => hasS S t r) i4) ||| (1 <<< ((nI i4) &&& 31)))), (0, .ref (q 0)), (1, .int (nI r))]) hx hb dX3_teamsWithSheet_31 hl (k := 1) rfl (nI_1 _) (by decide) rfl (fun ls hl => ?_)
          refine lv_goto (tgt := 4) hx hb dX3_teamsWithSheet_34 (by decide) ?_
          exact ih_i4 (i4 + 1) ((q_or (fun t => hasS S t r) i4) ||| (1 <<< ((nI i4) &&& 31))) (by first | rfl | simp [q_acc, q_or, q_cnt, q_any, nI_1, c_19]) lt_i4 (by omega) ls (lv_sub hl [0, 1, 2, 3] rfl)
  exact L_4 (s_n S + 1) 0 0 (rfl) (Nat.zero_le _) (by omega) ls (lv_sub hl [0, 1, 2, 3] rfl)

set_option maxHeartbeats 4000000 in
set_option maxRecDepth 100000 in
theorem c_X3_teamsWithJoker (l : Launch) (g : q_G) (q : Nat → Nat) (S : q_St) (r : Nat) (h1_ : s_n S ≤ 10) (h2_ : r < 8) : q_PM l yX3_teamsWithJoker wsX3_teamsWithJoker { frames := 0, cells := 0, slots := 0, locals := 0 } [.ref (q 0), .int (nI r)] (q_B g (q_stW g q S)) (.int (q_or (fun t => decide (s_jok S t = nI r)) (s_n S))) := by
  refine q_pm (cc := cX3_teamsWithJoker) (maxL := 4) (ret := (some .int)) (by decide) rfl (Nat.le_of_ble_eq_true rfl) ?_
  intro p e s m args below meth c ls hx hb hml hown hts hr hlk hB hl
  obtain ⟨hP, hK, hN⟩ := hB
  have fl_18 := hts (.fieldLink RX3 18 "PubQuizzes$State" "jokers" "[I") (by decide +kernel)
  have fl_66 := hts (.fieldLink RX3 66 "PubQuizzes$State" "teams" "I") (by decide +kernel)
  have hi_X3 : ∀ w ∈ u_ws RX3 TX3 12, w ∈ wsX3_teamsWithJoker := by decide +kernel
  have hl : lv_has ls 4 [(0, .ref (q 0)), (1, .int (nI r))] := hl
  refine lv_iconst (v := 0) hx hb dX3_teamsWithJoker_0 (by decide) ?_
  refine lv_istore_n (lv' := [(2, .int 0), (0, .ref (q 0)), (1, .int (nI r))]) hx hb dX3_teamsWithJoker_1 rfl hl (by decide) rfl (fun ls hl => ?_)
  refine lv_iconst (v := 0) hx hb dX3_teamsWithJoker_2 (by decide) ?_
  refine lv_istore_n (lv' := [(3, .int 0), (2, .int 0), (0, .ref (q 0)), (1, .int (nI r))]) hx hb dX3_teamsWithJoker_3 rfl hl (by decide) rfl (fun ls hl => ?_)
  have L_4 : ∀ (n i4 : Nat) (y2_4 : Int32), y2_4 = q_or (fun t => decide (s_jok S t = nI r)) i4 → i4 ≤ s_n S → s_n S < i4 + n → ∀ ls : Array Slot, lv_has ls 4 [(3, .int (nI i4)), (2, .int y2_4), (0, .ref (q 0)), (1, .int (nI r))] → W p l e { frames := 0, cells := 0, slots := 0, locals := 0 } s m args below meth c s.heap [] 0 0 (MQ below (k2_QcV (.int (q_or (fun t => decide (s_jok S t = nI r)) (s_n S)))) args s 0 0 (fun _ => False)) (F0 m 4 ls []) := by
    intro n
    induction n with
    | zero => intro i4 y2_4 ey2_4 hi_i4 hn_i4; exact absurd hn_i4 (by omega)
    | succ n ih_i4 =>
      intro i4 y2_4 ey2_4 hi_i4 hn_i4 ls hl
      subst ey2_4
      refine lv_iload_n hx hb dX3_teamsWithJoker_4 rfl (lv_at hl 0 rfl) ?_
      refine lv_aload_n hx hb dX3_teamsWithJoker_5 rfl (lv_at hl 2 rfl) ?_
      refine va_get (D := g.1) (ci := 2) (v := .int (nI (s_n S))) (C := RX3) (T := TX3) (N := 12) hx hb hts hi_X3 hown hK hP 0 rfl rfl 10 (by decide) fl_66 (fun _ h9 => h9) rfl dX3_teamsWithJoker_6 ?_
      refine lv_icmp_ge (tgt := 38) hx hb dX3_teamsWithJoker_9 (by decide) (fun c_9 => ?_) (fun c_9 => ?_)
      · skip
        have e_9 : i4 = s_n S := q_ge_T (by omega) hi_i4 c_9
        subst e_9
        refine lv_iload_n hx hb dX3_teamsWithJoker_38 rfl (lv_at hl 1 rfl) ?_
        exact q_iret hx hb hr hlk dX3_teamsWithJoker_39 (rfl)
      · skip
        have lt_i4 : i4 < s_n S := q_ge_F (by omega) hi_i4 c_9
        refine lv_iload_n hx hb dX3_teamsWithJoker_12 rfl (lv_at hl 1 rfl) ?_
        refine lv_aload_n hx hb dX3_teamsWithJoker_13 rfl (lv_at hl 2 rfl) ?_
        refine va_get (D := g.1) (ci := 2) (v := .ref (q 3)) (C := RX3) (T := TX3) (N := 12) hx hb hts hi_X3 hown hK hP 0 rfl rfl 2 (by decide) fl_18 (fun _ h9 => h9) rfl dX3_teamsWithJoker_14 ?_
        refine lv_iload_n hx hb dX3_teamsWithJoker_17 rfl (lv_at hl 0 rfl) ?_
        refine q_iald (j := i4) hx hb hK hP 3 0 rfl rfl (by omega) (by decide) dX3_teamsWithJoker_18 ?_
        refine lv_iload_n hx hb dX3_teamsWithJoker_19 rfl (lv_at hl 3 rfl) ?_
        refine lv_icmp_ne (tgt := 29) hx hb dX3_teamsWithJoker_20 (by decide) (fun c_20 => ?_) (fun c_20 => ?_)
        · skip
          refine lv_iconst (v := 0) hx hb dX3_teamsWithJoker_29 (by decide) ?_
          refine lv_ior hx hb dX3_teamsWithJoker_30 ?_
          refine lv_istore_n (lv' := [(2, .int ((q_or (fun t => decide (s_jok S t = nI r)) i4) ||| 0)), (3, .int (nI i4)), (0, .ref (q 0)), (1, .int (nI r))]) hx hb dX3_teamsWithJoker_31 rfl hl (by decide) rfl (fun ls hl => ?_)
          refine lv_iinc (v := nI (i4 + 1)) (lv' := [(3, .int (nI (i4 + 1))), (2, .int ((q_or (fun t => decide (s_jok S t = nI r)) i4) ||| 0)), (0, .ref (q 0)), (1, .int (nI r))]) hx hb dX3_teamsWithJoker_32 hl (k := 1) rfl (nI_1 _) (by decide) rfl (fun ls hl => ?_)
          refine lv_goto (tgt := 4) hx hb dX3_teamsWithJoker_35 (by decide) ?_
          exact ih_i4 (i4 + 1) ((q_or (fun t => decide (s_jok S t = nI r)) i4) ||| 0) (by first | rfl | simp [q_acc, q_or, q_cnt, q_any, nI_1, c_20]) lt_i4 (by omega) ls (lv_sub hl [0, 1, 2, 3] rfl)
        · skip
          refine lv_iconst (v := 1) hx hb dX3_teamsWithJoker_23 (by decide) ?_
          refine lv_iload_n hx hb dX3_teamsWithJoker_24 rfl (lv_at hl 0 rfl) ?_
          refine lv_ishl hx hb dX3_teamsWithJoker_25 ?_
          refine lv_goto (tgt := 30) hx hb dX3_teamsWithJoker_26 (by decide) ?_
          refine lv_ior hx hb dX3_teamsWithJoker_30 ?_
          refine lv_istore_n (lv' := [(2, .int ((q_or (fun t => decide (s_jok S t = nI r)) i4) ||| (1 <<< ((nI i4) &&& 31)))), (3, .int (nI i4)), (0, .ref (q 0)), (1, .int (nI r))]) hx hb dX3_teamsWithJoker_31 rfl hl (by decide) rfl (fun ls hl => ?_)
          refine lv_iinc (v := nI (i4 + 1)) (lv' := [(3, .int (nI (i4 + 1))), (2, .int ((q_or (fun t => decide (s_jok S t = nI r)) i4) ||| (1 <<< ((nI i4) &&& 31)))), (0, .ref (q 0)), (1, .int (nI r))]) hx hb dX3_teamsWithJoker_32 hl (k := 1) rfl (nI_1 _) (by decide) rfl (fun ls hl => ?_)
          refine lv_goto (tgt := 4) hx hb dX3_teamsWithJoker_35 (by decide) ?_
          exact ih_i4 (i4 + 1) ((q_or (fun t => decide (s_jok S t = nI r)) i4) ||| (1 <<< ((nI i4) &&& 31))) (by first | rfl | simp [q_acc, q_or, q_cnt, q_any, nI_1, c_20]) lt_i4 (by omega) ls (lv_sub hl [0, 1, 2, 3] rfl)
  exact L_4 (s_n S + 1) 0 0 (rfl) (Nat.zero_le _) (by omega) ls (lv_sub hl [0, 1, 2, 3] rfl)

set_option maxHeartbeats 4000000 in
set_option maxRecDepth 100000 in
theorem c_X3_teamsTold (l : Launch) (g : q_G) (q : Nat → Nat) (S : q_St) (r : Nat) (h1_ : s_n S ≤ 10) (h2_ : r < 8) : q_PM l yX3_teamsTold wsX3_teamsTold { frames := 3, cells := 0, slots := 0, locals := 65 } [.ref (q 0), .int (nI r)] (q_B g (q_stW g q S)) (.int (q_or (fun t => tldS S t r) (s_n S))) := by
  refine q_pm (cc := cX3_teamsTold) (maxL := 4) (ret := (some .int)) (by decide) rfl (Nat.le_of_ble_eq_true rfl) ?_
  intro p e s m args below meth c ls hx hb hml hown hts hr hlk hB hl
  obtain ⟨hP, hK, hN⟩ := hB
  have fl_66 := hts (.fieldLink RX3 66 "PubQuizzes$State" "teams" "I") (by decide +kernel)
  have hi_X3 : ∀ w ∈ u_ws RX3 TX3 12, w ∈ wsX3_teamsTold := by decide +kernel
  have hl : lv_has ls 4 [(0, .ref (q 0)), (1, .int (nI r))] := hl
  refine lv_iconst (v := 0) hx hb dX3_teamsTold_0 (by decide) ?_
  refine lv_istore_n (lv' := [(2, .int 0), (0, .ref (q 0)), (1, .int (nI r))]) hx hb dX3_teamsTold_1 rfl hl (by decide) rfl (fun ls hl => ?_)
  refine lv_iconst (v := 0) hx hb dX3_teamsTold_2 (by decide) ?_
  refine lv_istore_n (lv' := [(3, .int 0), (2, .int 0), (0, .ref (q 0)), (1, .int (nI r))]) hx hb dX3_teamsTold_3 rfl hl (by decide) rfl (fun ls hl => ?_)
  have L_4 : ∀ (n i4 : Nat) (y2_4 : Int32), y2_4 = q_or (fun t => tldS S t r) i4 → i4 ≤ s_n S → s_n S < i4 + n → ∀ ls : Array Slot, lv_has ls 4 [(3, .int (nI i4)), (2, .int y2_4), (0, .ref (q 0)), (1, .int (nI r))] → W p l e { frames := 3, cells := 0, slots := 0, locals := 65 } s m args below meth c s.heap [] 0 0 (MQ below (k2_QcV (.int (q_or (fun t => tldS S t r) (s_n S)))) args s 0 0 (fun _ => False)) (F0 m 4 ls []) := by
    intro n
    induction n with
    | zero => intro i4 y2_4 ey2_4 hi_i4 hn_i4; exact absurd hn_i4 (by omega)
    | succ n ih_i4 =>
      intro i4 y2_4 ey2_4 hi_i4 hn_i4 ls hl
      subst ey2_4
      refine lv_iload_n hx hb dX3_teamsTold_4 rfl (lv_at hl 0 rfl) ?_
      refine lv_aload_n hx hb dX3_teamsTold_5 rfl (lv_at hl 2 rfl) ?_
      refine va_get (D := g.1) (ci := 2) (v := .int (nI (s_n S))) (C := RX3) (T := TX3) (N := 12) hx hb hts hi_X3 hown hK hP 0 rfl rfl 10 (by decide) fl_66 (fun _ h9 => h9) rfl dX3_teamsTold_6 ?_
      refine lv_icmp_ge (tgt := 37) hx hb dX3_teamsTold_9 (by decide) (fun c_9 => ?_) (fun c_9 => ?_)
      · skip
        have e_9 : i4 = s_n S := q_ge_T (by omega) hi_i4 c_9
        subst e_9
        refine lv_iload_n hx hb dX3_teamsTold_37 rfl (lv_at hl 1 rfl) ?_
        exact q_iret hx hb hr hlk dX3_teamsTold_38 (rfl)
      · skip
        have lt_i4 : i4 < s_n S := q_ge_F (by omega) hi_i4 c_9
        refine lv_iload_n hx hb dX3_teamsTold_12 rfl (lv_at hl 1 rfl) ?_
        refine lv_aload_n hx hb dX3_teamsTold_13 rfl (lv_at hl 2 rfl) ?_
        refine lv_iload_n hx hb dX3_teamsTold_14 rfl (lv_at hl 0 rfl) ?_
        refine lv_iload_n hx hb dX3_teamsTold_15 rfl (lv_at hl 3 rfl) ?_
        refine q_V (As := [.int (nI i4), .int (nI r)]) (rest := [.int (q_or (fun t => tldS S t r) i4)]) ⟨hx, hb, hml, hown, hts⟩ (c_X3_isTold l g q S i4 r (by omega) (by omega)) (cwV 2 hts gX3_teamsTold_X3_isTold rfl rfl rfl (by decide +kernel) ⟨Nat.le_of_ble_eq_true rfl, Nat.le_of_ble_eq_true rfl⟩) q_B_blind (va_recv hK hP (ci := 2) (q0 := 0) rfl rfl) (q_B_of hP hK hN) rfl hl.1 rfl (Nat.le_of_ble_eq_true rfl) dX3_teamsTold_16 (Nat.zero_le _) (Nat.zero_le _) ?_
        refine lv_if_eq (tgt := 28) hx hb dX3_teamsTold_19 (by decide) (fun c_19 => ?_) (fun c_19 => ?_)
        · skip
          have c_19 : (tldS S i4 r) = false := bI_eq c_19
          refine lv_iconst (v := 0) hx hb dX3_teamsTold_28 (by decide) ?_
          refine lv_ior hx hb dX3_teamsTold_29 ?_
          refine lv_istore_n (lv' := [(2, .int ((q_or (fun t => tldS S t r) i4) ||| 0)), (3, .int (nI i4)), (0, .ref (q 0)), (1, .int (nI r))]) hx hb dX3_teamsTold_30 rfl hl (by decide) rfl (fun ls hl => ?_)
          refine lv_iinc (v := nI (i4 + 1)) (lv' := [(3, .int (nI (i4 + 1))), (2, .int ((q_or (fun t => tldS S t r) i4) ||| 0)), (0, .ref (q 0)), (1, .int (nI r))]) hx hb dX3_teamsTold_31 hl (k := 1) rfl (nI_1 _) (by decide) rfl (fun ls hl => ?_)
          refine lv_goto (tgt := 4) hx hb dX3_teamsTold_34 (by decide) ?_
          exact ih_i4 (i4 + 1) ((q_or (fun t => tldS S t r) i4) ||| 0) (by first | rfl | simp [q_acc, q_or, q_cnt, q_any, nI_1, c_19]) lt_i4 (by omega) ls (lv_sub hl [0, 1, 2, 3] rfl)
        · skip
          have c_19 : (tldS S i4 r) = true := bI_ne c_19
          refine lv_iconst (v := 1) hx hb dX3_teamsTold_22 (by decide) ?_
          refine lv_iload_n hx hb dX3_teamsTold_23 rfl (lv_at hl 0 rfl) ?_
          refine lv_ishl hx hb dX3_teamsTold_24 ?_
          refine lv_goto (tgt := 29) hx hb dX3_teamsTold_25 (by decide) ?_
          refine lv_ior hx hb dX3_teamsTold_29 ?_
          refine lv_istore_n (lv' := [(2, .int ((q_or (fun t => tldS S t r) i4) ||| (1 <<< ((nI i4) &&& 31)))), (3, .int (nI i4)), (0, .ref (q 0)), (1, .int (nI r))]) hx hb dX3_teamsTold_30 rfl hl (by decide) rfl (fun ls hl => ?_)
          refine lv_iinc (v := nI (i4 + 1)) (lv' := [(3, .int (nI (i4 + 1))), (2, .int ((q_or (fun t => tldS S t r) i4) ||| (1 <<< ((nI i4) &&& 31)))), (0, .ref (q 0)), (1, .int (nI r))]) hx hb dX3_teamsTold_31 hl (k := 1) rfl (nI_1 _) (by decide) rfl (fun ls hl => ?_)
          refine lv_goto (tgt := 4) hx hb dX3_teamsTold_34 (by decide) ?_
          exact ih_i4 (i4 + 1) ((q_or (fun t => tldS S t r) i4) ||| (1 <<< ((nI i4) &&& 31))) (by first | rfl | simp [q_acc, q_or, q_cnt, q_any, nI_1, c_19]) lt_i4 (by omega) ls (lv_sub hl [0, 1, 2, 3] rfl)
  exact L_4 (s_n S + 1) 0 0 (rfl) (Nat.zero_le _) (by omega) ls (lv_sub hl [0, 1, 2, 3] rfl)

set_option maxHeartbeats 4000000 in
set_option maxRecDepth 100000 in
theorem c_X3_withJoker (l : Launch) (g : q_G) (q : Nat → Nat) (S : q_St) (t : Nat) (r : Nat) (x : Int32) (h1_ : t < 10) : q_PM l yX3_withJoker wsX3_withJoker { frames := 0, cells := 0, slots := 0, locals := 0 } [.ref (q 0), .int (nI t), .int (nI r), .int x] (q_B g (q_stW g q S)) (.int (withJ S t r x)) := by
  refine q_pm (cc := cX3_withJoker) (maxL := 4) (ret := (some .int)) (by decide) rfl (Nat.le_of_ble_eq_true rfl) ?_
  intro p e s m args below meth c ls hx hb hml hown hts hr hlk hB hl
  obtain ⟨hP, hK, hN⟩ := hB
  have fl_18 := hts (.fieldLink RX3 18 "PubQuizzes$State" "jokers" "[I") (by decide +kernel)
  have hi_X3 : ∀ w ∈ u_ws RX3 TX3 12, w ∈ wsX3_withJoker := by decide +kernel
  have hl : lv_has ls 4 [(0, .ref (q 0)), (1, .int (nI t)), (2, .int (nI r)), (3, .int x)] := hl
  refine lv_aload_n hx hb dX3_withJoker_0 rfl (lv_at hl 0 rfl) ?_
  refine va_get (D := g.1) (ci := 2) (v := .ref (q 3)) (C := RX3) (T := TX3) (N := 12) hx hb hts hi_X3 hown hK hP 0 rfl rfl 2 (by decide) fl_18 (fun _ h9 => h9) rfl dX3_withJoker_1 ?_
  refine lv_iload_n hx hb dX3_withJoker_4 rfl (lv_at hl 1 rfl) ?_
  refine q_iald (j := t) hx hb hK hP 3 0 rfl rfl (by omega) (by decide) dX3_withJoker_5 ?_
  refine lv_iload_n hx hb dX3_withJoker_6 rfl (lv_at hl 2 rfl) ?_
  refine lv_icmp_ne (tgt := 16) hx hb dX3_withJoker_7 (by decide) (fun c_7 => ?_) (fun c_7 => ?_)
  · skip
    refine lv_iload_n hx hb dX3_withJoker_16 rfl (lv_at hl 3 rfl) ?_
    exact q_iret hx hb hr hlk dX3_withJoker_17 (by first | rfl | simp [withJ, c_7])
  · skip
    refine lv_iconst (v := 2) hx hb dX3_withJoker_10 (by decide) ?_
    refine lv_iload_n hx hb dX3_withJoker_11 rfl (lv_at hl 3 rfl) ?_
    refine lv_imul hx hb dX3_withJoker_12 ?_
    refine lv_goto (tgt := 17) hx hb dX3_withJoker_13 (by decide) ?_
    exact q_iret hx hb hr hlk dX3_withJoker_17 (by first | rfl | simp [withJ, c_7])

set_option maxHeartbeats 4000000 in
set_option maxRecDepth 100000 in
theorem c_X3_pointsOf (l : Launch) (g : q_G) (q : Nat → Nat) (S : q_St) (t : Nat) (r : Nat) (h1_ : t < 10) (h2_ : r < 8) : q_PM l yX3_pointsOf wsX3_pointsOf { frames := 1, cells := 0, slots := 0, locals := 23 } [.ref (q 0), .int (nI t), .int (nI r)] (q_B g (q_stW g q S)) (.int (ptsS S t r)) := by
  refine q_pm (cc := cX3_pointsOf) (maxL := 4) (ret := (some .int)) (by decide) rfl (Nat.le_of_ble_eq_true rfl) ?_
  intro p e s m args below meth c ls hx hb hml hown hts hr hlk hB hl
  obtain ⟨hP, hK, hN⟩ := hB
  have fl_34 := hts (.fieldLink RX3 34 "PubQuizzes$State" "marks" "[I") (by decide +kernel)
  have fl_37 := hts (.fieldLink RX3 37 "PubQuizzes$State" "markers" "[I") (by decide +kernel)
  have hi_X3 : ∀ w ∈ u_ws RX3 TX3 12, w ∈ wsX3_pointsOf := by decide +kernel
  have hl : lv_has ls 4 [(0, .ref (q 0)), (1, .int (nI t)), (2, .int (nI r))] := hl
  refine lv_iload_n hx hb dX3_pointsOf_0 rfl (lv_at hl 1 rfl) ?_
  refine lv_iload_n hx hb dX3_pointsOf_1 rfl (lv_at hl 2 rfl) ?_
  refine q_SN (As := [.int (nI t), .int (nI r)]) (rest := []) ⟨hx, hb, hml, hown, hts⟩ (c_X4_indexOf l t r ) ⟨va_cnB 2 hts gX3_pointsOf_X4_indexOf_n69 rfl rfl rfl hN (hts (.initialized RX4) (by decide +kernel)) (by decide +kernel) ⟨Nat.le_of_ble_eq_true rfl, Nat.le_of_ble_eq_true rfl⟩, hts (.static yX4_indexOf) (by decide +kernel), trivial⟩ q_Blind_t (fun _ _ _ => trivial) rfl hl.1 rfl (Nat.le_of_ble_eq_true rfl) dX3_pointsOf_2 (Nat.zero_le _) (Nat.zero_le _) ?_
  refine lv_istore_n (lv' := [(3, .int (nI (t * 8 + r))), (0, .ref (q 0)), (1, .int (nI t)), (2, .int (nI r))]) hx hb dX3_pointsOf_5 rfl hl (by decide) rfl (fun ls hl => ?_)
  refine lv_aload_n hx hb dX3_pointsOf_6 rfl (lv_at hl 1 rfl) ?_
  refine va_get (D := g.1) (ci := 2) (v := .ref (q 9)) (C := RX3) (T := TX3) (N := 12) hx hb hts hi_X3 hown hK hP 0 rfl rfl 8 (by decide) fl_37 (fun _ h9 => h9) rfl dX3_pointsOf_7 ?_
  refine lv_iload_n hx hb dX3_pointsOf_10 rfl (lv_at hl 0 rfl) ?_
  refine q_iald (j := (t * 8 + r)) hx hb hK hP 9 0 rfl rfl (by omega) (by decide) dX3_pointsOf_11 ?_
  refine lv_bipush (v := (-6)) hx hb dX3_pointsOf_12 (by decide) ?_
  refine lv_icmp_ne (tgt := 21) hx hb dX3_pointsOf_14 (by decide) (fun c_14 => ?_) (fun c_14 => ?_)
  · skip
    refine lv_aload_n hx hb dX3_pointsOf_21 rfl (lv_at hl 1 rfl) ?_
    refine lv_iload_n hx hb dX3_pointsOf_22 rfl (lv_at hl 2 rfl) ?_
    refine lv_iload_n hx hb dX3_pointsOf_23 rfl (lv_at hl 3 rfl) ?_
    refine lv_aload_n hx hb dX3_pointsOf_24 rfl (lv_at hl 1 rfl) ?_
    refine va_get (D := g.1) (ci := 2) (v := .ref (q 8)) (C := RX3) (T := TX3) (N := 12) hx hb hts hi_X3 hown hK hP 0 rfl rfl 7 (by decide) fl_34 (fun _ h9 => h9) rfl dX3_pointsOf_25 ?_
    refine lv_iload_n hx hb dX3_pointsOf_28 rfl (lv_at hl 0 rfl) ?_
    refine q_iald (j := (t * 8 + r)) hx hb hK hP 8 0 rfl rfl (by omega) (by decide) dX3_pointsOf_29 ?_
    refine q_V (As := [.int (nI t), .int (nI r), .int (s_mar S (t * 8 + r))]) (rest := []) ⟨hx, hb, hml, hown, hts⟩ (c_X3_withJoker l g q S t r (s_mar S (t * 8 + r)) (by omega)) (cwV 3 hts gX3_pointsOf_X3_withJoker rfl rfl rfl (by decide +kernel) ⟨Nat.le_of_ble_eq_true rfl, Nat.le_of_ble_eq_true rfl⟩) q_B_blind (va_recv hK hP (ci := 2) (q0 := 0) rfl rfl) (q_B_of hP hK hN) rfl hl.1 rfl (Nat.le_of_ble_eq_true rfl) dX3_pointsOf_30 (Nat.zero_le _) (Nat.zero_le _) ?_
    exact q_iret hx hb hr hlk dX3_pointsOf_33 (by first | rfl | simp [ptsS, c_14])
  · skip
    refine lv_iconst (v := 0) hx hb dX3_pointsOf_17 (by decide) ?_
    refine lv_goto (tgt := 33) hx hb dX3_pointsOf_18 (by decide) ?_
    exact q_iret hx hb hr hlk dX3_pointsOf_33 (by first | rfl | simp [ptsS, c_14])

set_option maxHeartbeats 4000000 in
set_option maxRecDepth 100000 in
theorem c_X3_scoreOf (l : Launch) (g : q_G) (q : Nat → Nat) (S : q_St) (t : Nat) (h1_ : t < 10) : q_PM l yX3_scoreOf wsX3_scoreOf { frames := 2, cells := 0, slots := 0, locals := 46 } [.ref (q 0), .int (nI t)] (q_B g (q_stW g q S)) (.int (scoS S t)) := by
  refine q_pm (cc := cX3_scoreOf) (maxL := 4) (ret := (some .int)) (by decide) rfl (Nat.le_of_ble_eq_true rfl) ?_
  intro p e s m args below meth c ls hx hb hml hown hts hr hlk hB hl
  obtain ⟨hP, hK, hN⟩ := hB
  have fl_9 := hts (.fieldLink RX3 9 "PubQuizzes$State" "settings" "[I") (by decide +kernel)
  have fl_21 := hts (.fieldLink RX3 21 "PubQuizzes$State" "fines" "[I") (by decide +kernel)
  have hi_X3 : ∀ w ∈ u_ws RX3 TX3 12, w ∈ wsX3_scoreOf := by decide +kernel
  have hl : lv_has ls 4 [(0, .ref (q 0)), (1, .int (nI t))] := hl
  refine lv_aload_n hx hb dX3_scoreOf_0 rfl (lv_at hl 0 rfl) ?_
  refine va_get (D := g.1) (ci := 2) (v := .ref (q 1)) (C := RX3) (T := TX3) (N := 12) hx hb hts hi_X3 hown hK hP 0 rfl rfl 0 (by decide) fl_9 (fun _ h9 => h9) rfl dX3_scoreOf_1 ?_
  refine lv_iconst (v := 3) hx hb dX3_scoreOf_4 (by decide) ?_
  refine q_iald (j := 3) hx hb hK hP 1 0 rfl rfl (by omega) (by decide) dX3_scoreOf_5 ?_
  refine lv_ineg hx hb dX3_scoreOf_6 ?_
  refine lv_aload_n hx hb dX3_scoreOf_7 rfl (lv_at hl 0 rfl) ?_
  refine va_get (D := g.1) (ci := 2) (v := .ref (q 4)) (C := RX3) (T := TX3) (N := 12) hx hb hts hi_X3 hown hK hP 0 rfl rfl 3 (by decide) fl_21 (fun _ h9 => h9) rfl dX3_scoreOf_8 ?_
  refine lv_iload_n hx hb dX3_scoreOf_11 rfl (lv_at hl 1 rfl) ?_
  refine q_iald (j := t) hx hb hK hP 4 0 rfl rfl (by omega) (by decide) dX3_scoreOf_12 ?_
  refine lv_imul hx hb dX3_scoreOf_13 ?_
  refine lv_istore_n (lv' := [(2, .int ((-(s_set S 3)) * (s_fin S t))), (0, .ref (q 0)), (1, .int (nI t))]) hx hb dX3_scoreOf_14 rfl hl (by decide) rfl (fun ls hl => ?_)
  refine lv_iconst (v := 0) hx hb dX3_scoreOf_15 (by decide) ?_
  refine lv_istore_n (lv' := [(3, .int 0), (2, .int ((-(s_set S 3)) * (s_fin S t))), (0, .ref (q 0)), (1, .int (nI t))]) hx hb dX3_scoreOf_16 rfl hl (by decide) rfl (fun ls hl => ?_)
  have L_17 : ∀ (n i17 : Nat) (y2_17 : Int32), y2_17 = q_acc (fineS S t) (ptsS S t) i17 → i17 ≤ 8 → 8 < i17 + n → ∀ ls : Array Slot, lv_has ls 4 [(3, .int (nI i17)), (2, .int y2_17), (0, .ref (q 0)), (1, .int (nI t))] → W p l e { frames := 2, cells := 0, slots := 0, locals := 46 } s m args below meth c s.heap [] 0 0 (MQ below (k2_QcV (.int (scoS S t))) args s 0 0 (fun _ => False)) (F0 m 17 ls []) := by
    intro n
    induction n with
    | zero => intro i17 y2_17 ey2_17 hi_i17 hn_i17; exact absurd hn_i17 (by omega)
    | succ n ih_i17 =>
      intro i17 y2_17 ey2_17 hi_i17 hn_i17 ls hl
      subst ey2_17
      refine lv_iload_n hx hb dX3_scoreOf_17 rfl (lv_at hl 0 rfl) ?_
      refine lv_bipush (v := 8) hx hb dX3_scoreOf_18 (by decide) ?_
      refine lv_icmp_ge (tgt := 38) hx hb dX3_scoreOf_20 (by decide) (fun c_20 => ?_) (fun c_20 => ?_)
      · skip
        have e_20 : i17 = 8 := q_ge_T (by omega) hi_i17 c_20
        subst e_20
        refine lv_iload_n hx hb dX3_scoreOf_38 rfl (lv_at hl 1 rfl) ?_
        exact q_iret hx hb hr hlk dX3_scoreOf_39 (rfl)
      · skip
        have lt_i17 : i17 < 8 := q_ge_F (by omega) hi_i17 c_20
        refine lv_iload_n hx hb dX3_scoreOf_23 rfl (lv_at hl 1 rfl) ?_
        refine lv_aload_n hx hb dX3_scoreOf_24 rfl (lv_at hl 2 rfl) ?_
        refine lv_iload_n hx hb dX3_scoreOf_25 rfl (lv_at hl 3 rfl) ?_
        refine lv_iload_n hx hb dX3_scoreOf_26 rfl (lv_at hl 0 rfl) ?_
        refine q_V (As := [.int (nI t), .int (nI i17)]) (rest := [.int (q_acc (fineS S t) (ptsS S t) i17)]) ⟨hx, hb, hml, hown, hts⟩ (c_X3_pointsOf l g q S t i17 (by omega) (by omega)) (cwV 2 hts gX3_scoreOf_X3_pointsOf rfl rfl rfl (by decide +kernel) ⟨Nat.le_of_ble_eq_true rfl, Nat.le_of_ble_eq_true rfl⟩) q_B_blind (va_recv hK hP (ci := 2) (q0 := 0) rfl rfl) (q_B_of hP hK hN) rfl hl.1 rfl (Nat.le_of_ble_eq_true rfl) dX3_scoreOf_27 (Nat.zero_le _) (Nat.zero_le _) ?_
        refine lv_iadd hx hb dX3_scoreOf_30 ?_
        refine lv_istore_n (lv' := [(2, .int ((q_acc (fineS S t) (ptsS S t) i17) + (ptsS S t i17))), (3, .int (nI i17)), (0, .ref (q 0)), (1, .int (nI t))]) hx hb dX3_scoreOf_31 rfl hl (by decide) rfl (fun ls hl => ?_)
        refine lv_iinc (v := nI (i17 + 1)) (lv' := [(3, .int (nI (i17 + 1))), (2, .int ((q_acc (fineS S t) (ptsS S t) i17) + (ptsS S t i17))), (0, .ref (q 0)), (1, .int (nI t))]) hx hb dX3_scoreOf_32 hl (k := 1) rfl (nI_1 _) (by decide) rfl (fun ls hl => ?_)
        refine lv_goto (tgt := 17) hx hb dX3_scoreOf_35 (by decide) ?_
        exact ih_i17 (i17 + 1) ((q_acc (fineS S t) (ptsS S t) i17) + (ptsS S t i17)) (by first | rfl | simp [q_acc, q_or, q_cnt, q_any, nI_1, bI_t]) lt_i17 (by omega) ls (lv_sub hl [0, 1, 2, 3] rfl)
  exact L_17 (8 + 1) 0 ((-(s_set S 3)) * (s_fin S t)) (rfl) (Nat.zero_le _) (by omega) ls (lv_sub hl [0, 1, 2, 3] rfl)

set_option maxHeartbeats 4000000 in
set_option maxRecDepth 100000 in
theorem c_X3_greatestPoints (l : Launch) (g : q_G) (q : Nat → Nat) (S : q_St) (r : Nat) (h1_ : s_n S ≤ 10) (h2_ : r < 8) (h3_ : 1 ≤ s_n S) : q_PM l yX3_greatestPoints wsX3_greatestPoints { frames := 2, cells := 0, slots := 0, locals := 46 } [.ref (q 0), .int (nI r)] (q_B g (q_stW g q S)) (.int (grtS S r (s_n S))) := by
  refine q_pm (cc := cX3_greatestPoints) (maxL := 4) (ret := (some .int)) (by decide) rfl (Nat.le_of_ble_eq_true rfl) ?_
  intro p e s m args below meth c ls hx hb hml hown hts hr hlk hB hl
  obtain ⟨hP, hK, hN⟩ := hB
  have fl_66 := hts (.fieldLink RX3 66 "PubQuizzes$State" "teams" "I") (by decide +kernel)
  have hi_X3 : ∀ w ∈ u_ws RX3 TX3 12, w ∈ wsX3_greatestPoints := by decide +kernel
  have hl : lv_has ls 4 [(0, .ref (q 0)), (1, .int (nI r))] := hl
  refine lv_aload_n hx hb dX3_greatestPoints_0 rfl (lv_at hl 0 rfl) ?_
  refine lv_iconst (v := 0) hx hb dX3_greatestPoints_1 (by decide) ?_
  refine lv_iload_n hx hb dX3_greatestPoints_2 rfl (lv_at hl 1 rfl) ?_
  refine q_V (As := [.int (nI 0), .int (nI r)]) (rest := []) ⟨hx, hb, hml, hown, hts⟩ (c_X3_pointsOf l g q S 0 r (by omega) (by omega)) (cwV 2 hts gX3_greatestPoints_X3_pointsOf rfl rfl rfl (by decide +kernel) ⟨Nat.le_of_ble_eq_true rfl, Nat.le_of_ble_eq_true rfl⟩) q_B_blind (va_recv hK hP (ci := 2) (q0 := 0) rfl rfl) (q_B_of hP hK hN) rfl hl.1 rfl (Nat.le_of_ble_eq_true rfl) dX3_greatestPoints_3 (Nat.zero_le _) (Nat.zero_le _) ?_
  refine lv_istore_n (lv' := [(2, .int (ptsS S 0 r)), (0, .ref (q 0)), (1, .int (nI r))]) hx hb dX3_greatestPoints_6 rfl hl (by decide) rfl (fun ls hl => ?_)
  refine lv_iconst (v := 1) hx hb dX3_greatestPoints_7 (by decide) ?_
  refine lv_istore_n (lv' := [(3, .int 1), (2, .int (ptsS S 0 r)), (0, .ref (q 0)), (1, .int (nI r))]) hx hb dX3_greatestPoints_8 rfl hl (by decide) rfl (fun ls hl => ?_)
  have L_9 : ∀ (n i9 : Nat) (y2_9 : Int32), y2_9 = grtS S r i9 → 1 ≤ i9 → i9 ≤ s_n S → s_n S < i9 + n → ∀ ls : Array Slot, lv_has ls 4 [(3, .int (nI i9)), (2, .int y2_9), (0, .ref (q 0)), (1, .int (nI r))] → W p l e { frames := 2, cells := 0, slots := 0, locals := 46 } s m args below meth c s.heap [] 0 0 (MQ below (k2_QcV (.int (grtS S r (s_n S)))) args s 0 0 (fun _ => False)) (F0 m 9 ls []) := by
    intro n
    induction n with
    | zero => intro i9 y2_9 ey2_9 hs_i9 hi_i9 hn_i9; exact absurd hn_i9 (by omega)
    | succ n ih_i9 =>
      intro i9 y2_9 ey2_9 hs_i9 hi_i9 hn_i9 ls hl
      subst ey2_9
      refine lv_iload_n hx hb dX3_greatestPoints_9 rfl (lv_at hl 0 rfl) ?_
      refine lv_aload_n hx hb dX3_greatestPoints_10 rfl (lv_at hl 2 rfl) ?_
      refine va_get (D := g.1) (ci := 2) (v := .int (nI (s_n S))) (C := RX3) (T := TX3) (N := 12) hx hb hts hi_X3 hown hK hP 0 rfl rfl 10 (by decide) fl_66 (fun _ h9 => h9) rfl dX3_greatestPoints_11 ?_
      refine lv_icmp_ge (tgt := 34) hx hb dX3_greatestPoints_14 (by decide) (fun c_14 => ?_) (fun c_14 => ?_)
      · skip
        have e_14 : i9 = s_n S := q_ge_T (by omega) hi_i9 c_14
        subst e_14
        refine lv_iload_n hx hb dX3_greatestPoints_34 rfl (lv_at hl 1 rfl) ?_
        exact q_iret hx hb hr hlk dX3_greatestPoints_35 (rfl)
      · skip
        have lt_i9 : i9 < s_n S := q_ge_F (by omega) hi_i9 c_14
        refine lv_iload_n hx hb dX3_greatestPoints_17 rfl (lv_at hl 1 rfl) ?_
        refine lv_aload_n hx hb dX3_greatestPoints_18 rfl (lv_at hl 2 rfl) ?_
        refine lv_iload_n hx hb dX3_greatestPoints_19 rfl (lv_at hl 0 rfl) ?_
        refine lv_iload_n hx hb dX3_greatestPoints_20 rfl (lv_at hl 3 rfl) ?_
        refine q_V (As := [.int (nI i9), .int (nI r)]) (rest := [.int (grtS S r i9)]) ⟨hx, hb, hml, hown, hts⟩ (c_X3_pointsOf l g q S i9 r (by omega) (by omega)) (cwV 2 hts gX3_greatestPoints_X3_pointsOf rfl rfl rfl (by decide +kernel) ⟨Nat.le_of_ble_eq_true rfl, Nat.le_of_ble_eq_true rfl⟩) q_B_blind (va_recv hK hP (ci := 2) (q0 := 0) rfl rfl) (q_B_of hP hK hN) rfl hl.1 rfl (Nat.le_of_ble_eq_true rfl) dX3_greatestPoints_21 (Nat.zero_le _) (Nat.zero_le _) ?_
        refine va_mmax hx hb (hml.trans hl.1.symm) hown (hts (.methodLink RX3 110 Lib.Math.max.name) (by decide +kernel)) (hts (.static Lib.Math.max.name) (by decide +kernel)) (hts (.initialized "java/lang/Math") (by decide +kernel)) (hts (.code Lib.Math.max.name Lib.Math.max.code 2 (some .int)) (by decide +kernel)) (Nat.le_of_ble_eq_true rfl) (Nat.le_of_ble_eq_true rfl) (Nat.zero_le _) (Nat.zero_le _) dX3_greatestPoints_24 ?_
        refine lv_istore_n (lv' := [(2, .int (if grtS S r i9 < ptsS S i9 r then ptsS S i9 r else grtS S r i9)), (3, .int (nI i9)), (0, .ref (q 0)), (1, .int (nI r))]) hx hb dX3_greatestPoints_27 rfl hl (by decide) rfl (fun ls hl => ?_)
        refine lv_iinc (v := nI (i9 + 1)) (lv' := [(3, .int (nI (i9 + 1))), (2, .int (if grtS S r i9 < ptsS S i9 r then ptsS S i9 r else grtS S r i9)), (0, .ref (q 0)), (1, .int (nI r))]) hx hb dX3_greatestPoints_28 hl (k := 1) rfl (nI_1 _) (by decide) rfl (fun ls hl => ?_)
        refine lv_goto (tgt := 9) hx hb dX3_greatestPoints_31 (by decide) ?_
        exact ih_i9 (i9 + 1) (if grtS S r i9 < ptsS S i9 r then ptsS S i9 r else grtS S r i9) (by first | rfl | simp [q_acc, q_or, q_cnt, q_any, nI_1, bI_t]) (by omega) lt_i9 (by omega) ls (lv_sub hl [0, 1, 2, 3] rfl)
  exact L_9 (s_n S + 1) 1 (ptsS S 0 r) (by simp [grtS, Int32.lt_irrefl]) (Nat.le_refl _) (by omega) (by omega) ls (lv_sub hl [0, 1, 2, 3] rfl)

set_option maxHeartbeats 4000000 in
set_option maxRecDepth 100000 in
theorem c_X3_isFirstWithItsScore (l : Launch) (g : q_G) (q : Nat → Nat) (S : q_St) (t : Nat) (h1_ : t < 10) : q_PM l yX3_isFirstWithItsScore wsX3_isFirstWithItsScore { frames := 3, cells := 0, slots := 0, locals := 69 } [.ref (q 0), .int (nI t)] (q_B g (q_stW g q S)) (.int (bI (fst1 S t))) := by
  refine q_pm (cc := cX3_isFirstWithItsScore) (maxL := 4) (ret := (some .boolean)) (by decide) rfl (Nat.le_of_ble_eq_true rfl) ?_
  intro p e s m args below meth c ls hx hb hml hown hts hr hlk hB hl
  obtain ⟨hP, hK, hN⟩ := hB
  have hl : lv_has ls 4 [(0, .ref (q 0)), (1, .int (nI t))] := hl
  refine lv_aload_n hx hb dX3_isFirstWithItsScore_0 rfl (lv_at hl 0 rfl) ?_
  refine lv_iload_n hx hb dX3_isFirstWithItsScore_1 rfl (lv_at hl 1 rfl) ?_
  refine q_V (As := [.int (nI t)]) (rest := []) ⟨hx, hb, hml, hown, hts⟩ (c_X3_scoreOf l g q S t (by omega)) (cwV 1 hts gX3_isFirstWithItsScore_X3_scoreOf rfl rfl rfl (by decide +kernel) ⟨Nat.le_of_ble_eq_true rfl, Nat.le_of_ble_eq_true rfl⟩) q_B_blind (va_recv hK hP (ci := 2) (q0 := 0) rfl rfl) (q_B_of hP hK hN) rfl hl.1 rfl (Nat.le_of_ble_eq_true rfl) dX3_isFirstWithItsScore_2 (Nat.zero_le _) (Nat.zero_le _) ?_
  refine lv_istore_n (lv' := [(2, .int (scoS S t)), (0, .ref (q 0)), (1, .int (nI t))]) hx hb dX3_isFirstWithItsScore_5 rfl hl (by decide) rfl (fun ls hl => ?_)
  refine lv_iconst (v := 0) hx hb dX3_isFirstWithItsScore_6 (by decide) ?_
  refine lv_istore_n (lv' := [(3, .int 0), (2, .int (scoS S t)), (0, .ref (q 0)), (1, .int (nI t))]) hx hb dX3_isFirstWithItsScore_7 rfl hl (by decide) rfl (fun ls hl => ?_)
  have L_8 : ∀ (n i8 : Nat), (q_any (fun o => decide (scoS S o = scoS S t)) i8 = false) → i8 ≤ t → t < i8 + n → ∀ ls : Array Slot, lv_has ls 4 [(3, .int (nI i8)), (2, .int (scoS S t)), (0, .ref (q 0)), (1, .int (nI t))] → W p l e { frames := 3, cells := 0, slots := 0, locals := 69 } s m args below meth c s.heap [] 0 0 (MQ below (k2_QcV (.int (bI (fst1 S t)))) args s 0 0 (fun _ => False)) (F0 m 8 ls []) := by
    intro n
    induction n with
    | zero => intro i8 hf hi_i8 hn_i8; exact absurd hn_i8 (by omega)
    | succ n ih_i8 =>
      intro i8 hf hi_i8 hn_i8 ls hl
      refine lv_iload_n hx hb dX3_isFirstWithItsScore_8 rfl (lv_at hl 0 rfl) ?_
      refine lv_iload_n hx hb dX3_isFirstWithItsScore_9 rfl (lv_at hl 3 rfl) ?_
      refine lv_icmp_ge (tgt := 30) hx hb dX3_isFirstWithItsScore_10 (by decide) (fun c_10 => ?_) (fun c_10 => ?_)
      · skip
        have e_10 : i8 = t := q_ge_T (by omega) hi_i8 c_10
        rw [e_10] at hf
        refine lv_iconst (v := 1) hx hb dX3_isFirstWithItsScore_30 (by decide) ?_
        exact q_zret hx hb hr hlk dX3_isFirstWithItsScore_31 (by simp [fst1, bI, hf])
      · skip
        have lt_i8 : i8 < t := q_ge_F (by omega) hi_i8 c_10
        refine lv_aload_n hx hb dX3_isFirstWithItsScore_13 rfl (lv_at hl 2 rfl) ?_
        refine lv_iload_n hx hb dX3_isFirstWithItsScore_14 rfl (lv_at hl 0 rfl) ?_
        refine q_V (As := [.int (nI i8)]) (rest := []) ⟨hx, hb, hml, hown, hts⟩ (c_X3_scoreOf l g q S i8 (by omega)) (cwV 1 hts gX3_isFirstWithItsScore_X3_scoreOf rfl rfl rfl (by decide +kernel) ⟨Nat.le_of_ble_eq_true rfl, Nat.le_of_ble_eq_true rfl⟩) q_B_blind (va_recv hK hP (ci := 2) (q0 := 0) rfl rfl) (q_B_of hP hK hN) rfl hl.1 rfl (Nat.le_of_ble_eq_true rfl) dX3_isFirstWithItsScore_15 (Nat.zero_le _) (Nat.zero_le _) ?_
        refine lv_iload_n hx hb dX3_isFirstWithItsScore_18 rfl (lv_at hl 1 rfl) ?_
        refine lv_icmp_ne (tgt := 24) hx hb dX3_isFirstWithItsScore_19 (by decide) (fun c_19 => ?_) (fun c_19 => ?_)
        · skip
          refine lv_iinc (v := nI (i8 + 1)) (lv' := [(3, .int (nI (i8 + 1))), (2, .int (scoS S t)), (0, .ref (q 0)), (1, .int (nI t))]) hx hb dX3_isFirstWithItsScore_24 hl (k := 0) rfl (nI_1 _) (by decide) rfl (fun ls hl => ?_)
          refine lv_goto (tgt := 8) hx hb dX3_isFirstWithItsScore_27 (by decide) ?_
          exact ih_i8 (i8 + 1) (by simp [q_any, hf, c_19]) lt_i8 (by omega) ls (lv_sub hl [0, 1, 2, 3] rfl)
        · skip
          refine lv_iconst (v := 0) hx hb dX3_isFirstWithItsScore_22 (by decide) ?_
          exact q_zret hx hb hr hlk dX3_isFirstWithItsScore_23 (by simp [fst1, bI, q_any_t lt_i8 (f := fun o => decide (scoS S o = scoS S t)) (by simp [c_19])])
  exact L_8 (t + 1) 0 (rfl) (Nat.zero_le _) (by omega) ls (lv_sub hl [0, 1, 2, 3] rfl)

set_option maxHeartbeats 4000000 in
set_option maxRecDepth 100000 in
theorem c_X3_unlikeScores (l : Launch) (g : q_G) (q : Nat → Nat) (S : q_St) (h1_ : s_n S ≤ 10) : q_PM l yX3_unlikeScores wsX3_unlikeScores { frames := 4, cells := 0, slots := 0, locals := 92 } [.ref (q 0)] (q_B g (q_stW g q S)) (.int (nI (unlS S))) := by
  refine q_pm (cc := cX3_unlikeScores) (maxL := 3) (ret := (some .int)) (by decide) rfl (Nat.le_of_ble_eq_true rfl) ?_
  intro p e s m args below meth c ls hx hb hml hown hts hr hlk hB hl
  obtain ⟨hP, hK, hN⟩ := hB
  have fl_66 := hts (.fieldLink RX3 66 "PubQuizzes$State" "teams" "I") (by decide +kernel)
  have hi_X3 : ∀ w ∈ u_ws RX3 TX3 12, w ∈ wsX3_unlikeScores := by decide +kernel
  have hl : lv_has ls 3 [(0, .ref (q 0))] := hl
  refine lv_iconst (v := 0) hx hb dX3_unlikeScores_0 (by decide) ?_
  refine lv_istore_n (lv' := [(1, .int 0), (0, .ref (q 0))]) hx hb dX3_unlikeScores_1 rfl hl (by decide) rfl (fun ls hl => ?_)
  refine lv_iconst (v := 0) hx hb dX3_unlikeScores_2 (by decide) ?_
  refine lv_istore_n (lv' := [(2, .int 0), (1, .int 0), (0, .ref (q 0))]) hx hb dX3_unlikeScores_3 rfl hl (by decide) rfl (fun ls hl => ?_)
  have L_4 : ∀ (n i4 : Nat) (y1_4 : Int32), y1_4 = nI (q_cnt (fst1 S) i4) → i4 ≤ s_n S → s_n S < i4 + n → ∀ ls : Array Slot, lv_has ls 3 [(2, .int (nI i4)), (1, .int y1_4), (0, .ref (q 0))] → W p l e { frames := 4, cells := 0, slots := 0, locals := 92 } s m args below meth c s.heap [] 0 0 (MQ below (k2_QcV (.int (nI (unlS S)))) args s 0 0 (fun _ => False)) (F0 m 4 ls []) := by
    intro n
    induction n with
    | zero => intro i4 y1_4 ey1_4 hi_i4 hn_i4; exact absurd hn_i4 (by omega)
    | succ n ih_i4 =>
      intro i4 y1_4 ey1_4 hi_i4 hn_i4 ls hl
      subst ey1_4
      refine lv_iload_n hx hb dX3_unlikeScores_4 rfl (lv_at hl 0 rfl) ?_
      refine lv_aload_n hx hb dX3_unlikeScores_5 rfl (lv_at hl 2 rfl) ?_
      refine va_get (D := g.1) (ci := 2) (v := .int (nI (s_n S))) (C := RX3) (T := TX3) (N := 12) hx hb hts hi_X3 hown hK hP 0 rfl rfl 10 (by decide) fl_66 (fun _ h9 => h9) rfl dX3_unlikeScores_6 ?_
      refine lv_icmp_ge (tgt := 34) hx hb dX3_unlikeScores_9 (by decide) (fun c_9 => ?_) (fun c_9 => ?_)
      · skip
        have e_9 : i4 = s_n S := q_ge_T (by omega) hi_i4 c_9
        subst e_9
        refine lv_iload_n hx hb dX3_unlikeScores_34 rfl (lv_at hl 1 rfl) ?_
        exact q_iret hx hb hr hlk dX3_unlikeScores_35 (rfl)
      · skip
        have lt_i4 : i4 < s_n S := q_ge_F (by omega) hi_i4 c_9
        refine lv_iload_n hx hb dX3_unlikeScores_12 rfl (lv_at hl 1 rfl) ?_
        refine lv_aload_n hx hb dX3_unlikeScores_13 rfl (lv_at hl 2 rfl) ?_
        refine lv_iload_n hx hb dX3_unlikeScores_14 rfl (lv_at hl 0 rfl) ?_
        refine q_V (As := [.int (nI i4)]) (rest := [.int (nI (q_cnt (fst1 S) i4))]) ⟨hx, hb, hml, hown, hts⟩ (c_X3_isFirstWithItsScore l g q S i4 (by omega)) (cwV 1 hts gX3_unlikeScores_X3_isFirstWithItsScore rfl rfl rfl (by decide +kernel) ⟨Nat.le_of_ble_eq_true rfl, Nat.le_of_ble_eq_true rfl⟩) q_B_blind (va_recv hK hP (ci := 2) (q0 := 0) rfl rfl) (q_B_of hP hK hN) rfl hl.1 rfl (Nat.le_of_ble_eq_true rfl) dX3_unlikeScores_15 (Nat.zero_le _) (Nat.zero_le _) ?_
        refine lv_if_eq (tgt := 25) hx hb dX3_unlikeScores_18 (by decide) (fun c_18 => ?_) (fun c_18 => ?_)
        · skip
          have c_18 : (fst1 S i4) = false := bI_eq c_18
          refine lv_iconst (v := 0) hx hb dX3_unlikeScores_25 (by decide) ?_
          refine lv_iadd hx hb dX3_unlikeScores_26 ?_
          refine lv_istore_n (lv' := [(1, .int ((nI (q_cnt (fst1 S) i4)) + 0)), (2, .int (nI i4)), (0, .ref (q 0))]) hx hb dX3_unlikeScores_27 rfl hl (by decide) rfl (fun ls hl => ?_)
          refine lv_iinc (v := nI (i4 + 1)) (lv' := [(2, .int (nI (i4 + 1))), (1, .int ((nI (q_cnt (fst1 S) i4)) + 0)), (0, .ref (q 0))]) hx hb dX3_unlikeScores_28 hl (k := 1) rfl (nI_1 _) (by decide) rfl (fun ls hl => ?_)
          refine lv_goto (tgt := 4) hx hb dX3_unlikeScores_31 (by decide) ?_
          exact ih_i4 (i4 + 1) ((nI (q_cnt (fst1 S) i4)) + 0) (by first | rfl | simp [q_acc, q_or, q_cnt, q_any, nI_1, c_18]) lt_i4 (by omega) ls (lv_sub hl [0, 1, 2] rfl)
        · skip
          have c_18 : (fst1 S i4) = true := bI_ne c_18
          refine lv_iconst (v := 1) hx hb dX3_unlikeScores_21 (by decide) ?_
          refine lv_goto (tgt := 26) hx hb dX3_unlikeScores_22 (by decide) ?_
          refine lv_iadd hx hb dX3_unlikeScores_26 ?_
          refine lv_istore_n (lv' := [(1, .int ((nI (q_cnt (fst1 S) i4)) + 1)), (2, .int (nI i4)), (0, .ref (q 0))]) hx hb dX3_unlikeScores_27 rfl hl (by decide) rfl (fun ls hl => ?_)
          refine lv_iinc (v := nI (i4 + 1)) (lv' := [(2, .int (nI (i4 + 1))), (1, .int ((nI (q_cnt (fst1 S) i4)) + 1)), (0, .ref (q 0))]) hx hb dX3_unlikeScores_28 hl (k := 1) rfl (nI_1 _) (by decide) rfl (fun ls hl => ?_)
          refine lv_goto (tgt := 4) hx hb dX3_unlikeScores_31 (by decide) ?_
          exact ih_i4 (i4 + 1) ((nI (q_cnt (fst1 S) i4)) + 1) (by first | rfl | simp [q_acc, q_or, q_cnt, q_any, nI_1, c_18]) lt_i4 (by omega) ls (lv_sub hl [0, 1, 2] rfl)
  exact L_4 (s_n S + 1) 0 0 (rfl) (Nat.zero_le _) (by omega) ls (lv_sub hl [0, 1, 2] rfl)

set_option maxHeartbeats 4000000 in
set_option maxRecDepth 100000 in
theorem c_X3_allFines (l : Launch) (g : q_G) (q : Nat → Nat) (S : q_St) (h1_ : s_n S ≤ 10) : q_PM l yX3_allFines wsX3_allFines { frames := 0, cells := 0, slots := 0, locals := 0 } [.ref (q 0)] (q_B g (q_stW g q S)) (.int (finA S)) := by
  refine q_pm (cc := cX3_allFines) (maxL := 3) (ret := (some .int)) (by decide) rfl (Nat.le_of_ble_eq_true rfl) ?_
  intro p e s m args below meth c ls hx hb hml hown hts hr hlk hB hl
  obtain ⟨hP, hK, hN⟩ := hB
  have fl_21 := hts (.fieldLink RX3 21 "PubQuizzes$State" "fines" "[I") (by decide +kernel)
  have fl_66 := hts (.fieldLink RX3 66 "PubQuizzes$State" "teams" "I") (by decide +kernel)
  have hi_X3 : ∀ w ∈ u_ws RX3 TX3 12, w ∈ wsX3_allFines := by decide +kernel
  have hl : lv_has ls 3 [(0, .ref (q 0))] := hl
  refine lv_iconst (v := 0) hx hb dX3_allFines_0 (by decide) ?_
  refine lv_istore_n (lv' := [(1, .int 0), (0, .ref (q 0))]) hx hb dX3_allFines_1 rfl hl (by decide) rfl (fun ls hl => ?_)
  refine lv_iconst (v := 0) hx hb dX3_allFines_2 (by decide) ?_
  refine lv_istore_n (lv' := [(2, .int 0), (1, .int 0), (0, .ref (q 0))]) hx hb dX3_allFines_3 rfl hl (by decide) rfl (fun ls hl => ?_)
  have L_4 : ∀ (n i4 : Nat) (y1_4 : Int32), y1_4 = q_acc 0 (s_fin S) i4 → i4 ≤ s_n S → s_n S < i4 + n → ∀ ls : Array Slot, lv_has ls 3 [(2, .int (nI i4)), (1, .int y1_4), (0, .ref (q 0))] → W p l e { frames := 0, cells := 0, slots := 0, locals := 0 } s m args below meth c s.heap [] 0 0 (MQ below (k2_QcV (.int (finA S))) args s 0 0 (fun _ => False)) (F0 m 4 ls []) := by
    intro n
    induction n with
    | zero => intro i4 y1_4 ey1_4 hi_i4 hn_i4; exact absurd hn_i4 (by omega)
    | succ n ih_i4 =>
      intro i4 y1_4 ey1_4 hi_i4 hn_i4 ls hl
      subst ey1_4
      refine lv_iload_n hx hb dX3_allFines_4 rfl (lv_at hl 0 rfl) ?_
      refine lv_aload_n hx hb dX3_allFines_5 rfl (lv_at hl 2 rfl) ?_
      refine va_get (D := g.1) (ci := 2) (v := .int (nI (s_n S))) (C := RX3) (T := TX3) (N := 12) hx hb hts hi_X3 hown hK hP 0 rfl rfl 10 (by decide) fl_66 (fun _ h9 => h9) rfl dX3_allFines_6 ?_
      refine lv_icmp_ge (tgt := 27) hx hb dX3_allFines_9 (by decide) (fun c_9 => ?_) (fun c_9 => ?_)
      · skip
        have e_9 : i4 = s_n S := q_ge_T (by omega) hi_i4 c_9
        subst e_9
        refine lv_iload_n hx hb dX3_allFines_27 rfl (lv_at hl 1 rfl) ?_
        exact q_iret hx hb hr hlk dX3_allFines_28 (rfl)
      · skip
        have lt_i4 : i4 < s_n S := q_ge_F (by omega) hi_i4 c_9
        refine lv_iload_n hx hb dX3_allFines_12 rfl (lv_at hl 1 rfl) ?_
        refine lv_aload_n hx hb dX3_allFines_13 rfl (lv_at hl 2 rfl) ?_
        refine va_get (D := g.1) (ci := 2) (v := .ref (q 4)) (C := RX3) (T := TX3) (N := 12) hx hb hts hi_X3 hown hK hP 0 rfl rfl 3 (by decide) fl_21 (fun _ h9 => h9) rfl dX3_allFines_14 ?_
        refine lv_iload_n hx hb dX3_allFines_17 rfl (lv_at hl 0 rfl) ?_
        refine q_iald (j := i4) hx hb hK hP 4 0 rfl rfl (by omega) (by decide) dX3_allFines_18 ?_
        refine lv_iadd hx hb dX3_allFines_19 ?_
        refine lv_istore_n (lv' := [(1, .int ((q_acc 0 (s_fin S) i4) + (s_fin S i4))), (2, .int (nI i4)), (0, .ref (q 0))]) hx hb dX3_allFines_20 rfl hl (by decide) rfl (fun ls hl => ?_)
        refine lv_iinc (v := nI (i4 + 1)) (lv' := [(2, .int (nI (i4 + 1))), (1, .int ((q_acc 0 (s_fin S) i4) + (s_fin S i4))), (0, .ref (q 0))]) hx hb dX3_allFines_21 hl (k := 1) rfl (nI_1 _) (by decide) rfl (fun ls hl => ?_)
        refine lv_goto (tgt := 4) hx hb dX3_allFines_24 (by decide) ?_
        exact ih_i4 (i4 + 1) ((q_acc 0 (s_fin S) i4) + (s_fin S i4)) (by first | rfl | simp [q_acc, q_or, q_cnt, q_any, nI_1, bI_t]) lt_i4 (by omega) ls (lv_sub hl [0, 1, 2] rfl)
  exact L_4 (s_n S + 1) 0 0 (rfl) (Nat.zero_le _) (by omega) ls (lv_sub hl [0, 1, 2] rfl)

set_option maxHeartbeats 4000000 in
set_option maxRecDepth 100000 in
theorem c_X3_allLooks (l : Launch) (g : q_G) (q : Nat → Nat) (S : q_St) : q_PM l yX3_allLooks wsX3_allLooks { frames := 1, cells := 0, slots := 0, locals := 20 } [.ref (q 0)] (q_B g (q_stW g q S)) (.int (looA S)) := by
  refine q_pm (cc := cX3_allLooks) (maxL := 3) (ret := (some .int)) (by decide) rfl (Nat.le_of_ble_eq_true rfl) ?_
  intro p e s m args below meth c ls hx hb hml hown hts hr hlk hB hl
  obtain ⟨hP, hK, hN⟩ := hB
  have fl_40 := hts (.fieldLink RX3 40 "PubQuizzes$State" "looked" "[I") (by decide +kernel)
  have hi_X3 : ∀ w ∈ u_ws RX3 TX3 12, w ∈ wsX3_allLooks := by decide +kernel
  have hl : lv_has ls 3 [(0, .ref (q 0))] := hl
  refine lv_iconst (v := 0) hx hb dX3_allLooks_0 (by decide) ?_
  refine lv_istore_n (lv' := [(1, .int 0), (0, .ref (q 0))]) hx hb dX3_allLooks_1 rfl hl (by decide) rfl (fun ls hl => ?_)
  refine lv_iconst (v := 0) hx hb dX3_allLooks_2 (by decide) ?_
  refine lv_istore_n (lv' := [(2, .int 0), (1, .int 0), (0, .ref (q 0))]) hx hb dX3_allLooks_3 rfl hl (by decide) rfl (fun ls hl => ?_)
  have L_4 : ∀ (n i4 : Nat) (y1_4 : Int32), y1_4 = q_acc 0 (fun r => popc (s_loo S r)) i4 → i4 ≤ 8 → 8 < i4 + n → ∀ ls : Array Slot, lv_has ls 3 [(2, .int (nI i4)), (1, .int y1_4), (0, .ref (q 0))] → W p l e { frames := 1, cells := 0, slots := 0, locals := 20 } s m args below meth c s.heap [] 0 0 (MQ below (k2_QcV (.int (looA S))) args s 0 0 (fun _ => False)) (F0 m 4 ls []) := by
    intro n
    induction n with
    | zero => intro i4 y1_4 ey1_4 hi_i4 hn_i4; exact absurd hn_i4 (by omega)
    | succ n ih_i4 =>
      intro i4 y1_4 ey1_4 hi_i4 hn_i4 ls hl
      subst ey1_4
      refine lv_iload_n hx hb dX3_allLooks_4 rfl (lv_at hl 0 rfl) ?_
      refine lv_bipush (v := 8) hx hb dX3_allLooks_5 (by decide) ?_
      refine lv_icmp_ge (tgt := 28) hx hb dX3_allLooks_7 (by decide) (fun c_7 => ?_) (fun c_7 => ?_)
      · skip
        have e_7 : i4 = 8 := q_ge_T (by omega) hi_i4 c_7
        subst e_7
        refine lv_iload_n hx hb dX3_allLooks_28 rfl (lv_at hl 1 rfl) ?_
        exact q_iret hx hb hr hlk dX3_allLooks_29 (rfl)
      · skip
        have lt_i4 : i4 < 8 := q_ge_F (by omega) hi_i4 c_7
        refine lv_iload_n hx hb dX3_allLooks_10 rfl (lv_at hl 1 rfl) ?_
        refine lv_aload_n hx hb dX3_allLooks_11 rfl (lv_at hl 2 rfl) ?_
        refine va_get (D := g.1) (ci := 2) (v := .ref (q 10)) (C := RX3) (T := TX3) (N := 12) hx hb hts hi_X3 hown hK hP 0 rfl rfl 9 (by decide) fl_40 (fun _ h9 => h9) rfl dX3_allLooks_12 ?_
        refine lv_iload_n hx hb dX3_allLooks_15 rfl (lv_at hl 0 rfl) ?_
        refine q_iald (j := i4) hx hb hK hP 10 0 rfl rfl (by omega) (by decide) dX3_allLooks_16 ?_
        refine q_S (As := [.int (s_loo S i4)]) (rest := [.int (q_acc 0 (fun r => popc (s_loo S r)) i4)]) ⟨hx, hb, hml, hown, hts⟩ (c_J6_bitCount_0f7a4 l (s_loo S i4) ) (va_cwS 1 hts gX3_allLooks_J6_bitCount_0f7a4 rfl rfl rfl (by decide +kernel) ⟨Nat.le_of_ble_eq_true rfl, Nat.le_of_ble_eq_true rfl⟩) q_Blind_t (fun _ _ _ => trivial) rfl hl.1 rfl (Nat.le_of_ble_eq_true rfl) dX3_allLooks_17 (Nat.zero_le _) (Nat.zero_le _) ?_
        refine lv_iadd hx hb dX3_allLooks_20 ?_
        refine lv_istore_n (lv' := [(1, .int ((q_acc 0 (fun r => popc (s_loo S r)) i4) + (popc (s_loo S i4)))), (2, .int (nI i4)), (0, .ref (q 0))]) hx hb dX3_allLooks_21 rfl hl (by decide) rfl (fun ls hl => ?_)
        refine lv_iinc (v := nI (i4 + 1)) (lv' := [(2, .int (nI (i4 + 1))), (1, .int ((q_acc 0 (fun r => popc (s_loo S r)) i4) + (popc (s_loo S i4)))), (0, .ref (q 0))]) hx hb dX3_allLooks_22 hl (k := 1) rfl (nI_1 _) (by decide) rfl (fun ls hl => ?_)
        refine lv_goto (tgt := 4) hx hb dX3_allLooks_25 (by decide) ?_
        exact ih_i4 (i4 + 1) ((q_acc 0 (fun r => popc (s_loo S r)) i4) + (popc (s_loo S i4))) (by first | rfl | simp [q_acc, q_or, q_cnt, q_any, nI_1, bI_t]) lt_i4 (by omega) ls (lv_sub hl [0, 1, 2] rfl)
  exact L_4 (8 + 1) 0 0 (rfl) (Nat.zero_le _) (by omega) ls (lv_sub hl [0, 1, 2] rfl)

set_option maxHeartbeats 4000000 in
set_option maxRecDepth 100000 in
theorem c_X3_guessers (l : Launch) (g : q_G) (q : Nat → Nat) (S : q_St) (h1_ : s_n S ≤ 10) : q_PM l yX3_guessers wsX3_guessers { frames := 0, cells := 0, slots := 0, locals := 0 } [.ref (q 0)] (q_B g (q_stW g q S)) (.int (nI (gueN S))) := by
  refine q_pm (cc := cX3_guessers) (maxL := 3) (ret := (some .int)) (by decide) rfl (Nat.le_of_ble_eq_true rfl) ?_
  intro p e s m args below meth c ls hx hb hml hown hts hr hlk hB hl
  obtain ⟨hP, hK, hN⟩ := hB
  have fl_24 := hts (.fieldLink RX3 24 "PubQuizzes$State" "guesses" "[I") (by decide +kernel)
  have fl_66 := hts (.fieldLink RX3 66 "PubQuizzes$State" "teams" "I") (by decide +kernel)
  have hi_X3 : ∀ w ∈ u_ws RX3 TX3 12, w ∈ wsX3_guessers := by decide +kernel
  have hl : lv_has ls 3 [(0, .ref (q 0))] := hl
  refine lv_iconst (v := 0) hx hb dX3_guessers_0 (by decide) ?_
  refine lv_istore_n (lv' := [(1, .int 0), (0, .ref (q 0))]) hx hb dX3_guessers_1 rfl hl (by decide) rfl (fun ls hl => ?_)
  refine lv_iconst (v := 0) hx hb dX3_guessers_2 (by decide) ?_
  refine lv_istore_n (lv' := [(2, .int 0), (1, .int 0), (0, .ref (q 0))]) hx hb dX3_guessers_3 rfl hl (by decide) rfl (fun ls hl => ?_)
  have L_4 : ∀ (n i4 : Nat) (y1_4 : Int32), y1_4 = nI (q_cnt (fun t => !decide (s_gue S t = -6)) i4) → i4 ≤ s_n S → s_n S < i4 + n → ∀ ls : Array Slot, lv_has ls 3 [(2, .int (nI i4)), (1, .int y1_4), (0, .ref (q 0))] → W p l e { frames := 0, cells := 0, slots := 0, locals := 0 } s m args below meth c s.heap [] 0 0 (MQ below (k2_QcV (.int (nI (gueN S)))) args s 0 0 (fun _ => False)) (F0 m 4 ls []) := by
    intro n
    induction n with
    | zero => intro i4 y1_4 ey1_4 hi_i4 hn_i4; exact absurd hn_i4 (by omega)
    | succ n ih_i4 =>
      intro i4 y1_4 ey1_4 hi_i4 hn_i4 ls hl
      subst ey1_4
      refine lv_iload_n hx hb dX3_guessers_4 rfl (lv_at hl 0 rfl) ?_
      refine lv_aload_n hx hb dX3_guessers_5 rfl (lv_at hl 2 rfl) ?_
      refine va_get (D := g.1) (ci := 2) (v := .int (nI (s_n S))) (C := RX3) (T := TX3) (N := 12) hx hb hts hi_X3 hown hK hP 0 rfl rfl 10 (by decide) fl_66 (fun _ h9 => h9) rfl dX3_guessers_6 ?_
      refine lv_icmp_ge (tgt := 37) hx hb dX3_guessers_9 (by decide) (fun c_9 => ?_) (fun c_9 => ?_)
      · skip
        have e_9 : i4 = s_n S := q_ge_T (by omega) hi_i4 c_9
        subst e_9
        refine lv_iload_n hx hb dX3_guessers_37 rfl (lv_at hl 1 rfl) ?_
        exact q_iret hx hb hr hlk dX3_guessers_38 (rfl)
      · skip
        have lt_i4 : i4 < s_n S := q_ge_F (by omega) hi_i4 c_9
        refine lv_iload_n hx hb dX3_guessers_12 rfl (lv_at hl 1 rfl) ?_
        refine lv_aload_n hx hb dX3_guessers_13 rfl (lv_at hl 2 rfl) ?_
        refine va_get (D := g.1) (ci := 2) (v := .ref (q 5)) (C := RX3) (T := TX3) (N := 12) hx hb hts hi_X3 hown hK hP 0 rfl rfl 4 (by decide) fl_24 (fun _ h9 => h9) rfl dX3_guessers_14 ?_
        refine lv_iload_n hx hb dX3_guessers_17 rfl (lv_at hl 0 rfl) ?_
        refine q_iald (j := i4) hx hb hK hP 5 0 rfl rfl (by omega) (by decide) dX3_guessers_18 ?_
        refine lv_bipush (v := (-6)) hx hb dX3_guessers_19 (by decide) ?_
        refine lv_icmp_ne (tgt := 28) hx hb dX3_guessers_21 (by decide) (fun c_21 => ?_) (fun c_21 => ?_)
        · skip
          refine lv_iconst (v := 1) hx hb dX3_guessers_28 (by decide) ?_
          refine lv_iadd hx hb dX3_guessers_29 ?_
          refine lv_istore_n (lv' := [(1, .int ((nI (q_cnt (fun t => !decide (s_gue S t = -6)) i4)) + 1)), (2, .int (nI i4)), (0, .ref (q 0))]) hx hb dX3_guessers_30 rfl hl (by decide) rfl (fun ls hl => ?_)
          refine lv_iinc (v := nI (i4 + 1)) (lv' := [(2, .int (nI (i4 + 1))), (1, .int ((nI (q_cnt (fun t => !decide (s_gue S t = -6)) i4)) + 1)), (0, .ref (q 0))]) hx hb dX3_guessers_31 hl (k := 1) rfl (nI_1 _) (by decide) rfl (fun ls hl => ?_)
          refine lv_goto (tgt := 4) hx hb dX3_guessers_34 (by decide) ?_
          exact ih_i4 (i4 + 1) ((nI (q_cnt (fun t => !decide (s_gue S t = -6)) i4)) + 1) (by first | rfl | simp [q_acc, q_or, q_cnt, q_any, nI_1, c_21]) lt_i4 (by omega) ls (lv_sub hl [0, 1, 2] rfl)
        · skip
          refine lv_iconst (v := 0) hx hb dX3_guessers_24 (by decide) ?_
          refine lv_goto (tgt := 29) hx hb dX3_guessers_25 (by decide) ?_
          refine lv_iadd hx hb dX3_guessers_29 ?_
          refine lv_istore_n (lv' := [(1, .int ((nI (q_cnt (fun t => !decide (s_gue S t = -6)) i4)) + 0)), (2, .int (nI i4)), (0, .ref (q 0))]) hx hb dX3_guessers_30 rfl hl (by decide) rfl (fun ls hl => ?_)
          refine lv_iinc (v := nI (i4 + 1)) (lv' := [(2, .int (nI (i4 + 1))), (1, .int ((nI (q_cnt (fun t => !decide (s_gue S t = -6)) i4)) + 0)), (0, .ref (q 0))]) hx hb dX3_guessers_31 hl (k := 1) rfl (nI_1 _) (by decide) rfl (fun ls hl => ?_)
          refine lv_goto (tgt := 4) hx hb dX3_guessers_34 (by decide) ?_
          exact ih_i4 (i4 + 1) ((nI (q_cnt (fun t => !decide (s_gue S t = -6)) i4)) + 0) (by first | rfl | simp [q_acc, q_or, q_cnt, q_any, nI_1, c_21]) lt_i4 (by omega) ls (lv_sub hl [0, 1, 2] rfl)
  exact L_4 (s_n S + 1) 0 0 (rfl) (Nat.zero_le _) (by omega) ls (lv_sub hl [0, 1, 2] rfl)

set_option maxHeartbeats 4000000 in
set_option maxRecDepth 100000 in
theorem c_X3_distanceOf (l : Launch) (g : q_G) (q : Nat → Nat) (S : q_St) (t : Nat) (h1_ : t < 10) : q_PM l yX3_distanceOf wsX3_distanceOf { frames := 1, cells := 0, slots := 0, locals := 40 } [.ref (q 0), .int (nI t)] (q_B g (q_stW g q S)) (.int (distS S t)) := by
  refine q_pm (cc := cX3_distanceOf) (maxL := 2) (ret := (some .int)) (by decide) rfl (Nat.le_of_ble_eq_true rfl) ?_
  intro p e s m args below meth c ls hx hb hml hown hts hr hlk hB hl
  obtain ⟨hP, hK, hN⟩ := hB
  have fl_24 := hts (.fieldLink RX3 24 "PubQuizzes$State" "guesses" "[I") (by decide +kernel)
  have fl_43 := hts (.fieldLink RX3 43 "PubQuizzes$State" "truth" "I") (by decide +kernel)
  have hi_X3 : ∀ w ∈ u_ws RX3 TX3 12, w ∈ wsX3_distanceOf := by decide +kernel
  have hl : lv_has ls 2 [(0, .ref (q 0)), (1, .int (nI t))] := hl
  refine lv_aload_n hx hb dX3_distanceOf_0 rfl (lv_at hl 0 rfl) ?_
  refine va_get (D := g.1) (ci := 2) (v := .int (s_tru S)) (C := RX3) (T := TX3) (N := 12) hx hb hts hi_X3 hown hK hP 0 rfl rfl 11 (by decide) fl_43 (fun _ h9 => h9) rfl dX3_distanceOf_1 ?_
  refine lv_bipush (v := (-6)) hx hb dX3_distanceOf_4 (by decide) ?_
  refine lv_icmp_eq (tgt := 20) hx hb dX3_distanceOf_6 (by decide) (fun c_6 => ?_) (fun c_6 => ?_)
  · skip
    refine lv_sipush (v := 10000) hx hb dX3_distanceOf_20 (by decide) ?_
    exact q_iret hx hb hr hlk dX3_distanceOf_23 (by simp only [distS, if_pos c_6])
  · skip
    refine lv_aload_n hx hb dX3_distanceOf_9 rfl (lv_at hl 0 rfl) ?_
    refine va_get (D := g.1) (ci := 2) (v := .ref (q 5)) (C := RX3) (T := TX3) (N := 12) hx hb hts hi_X3 hown hK hP 0 rfl rfl 4 (by decide) fl_24 (fun _ h9 => h9) rfl dX3_distanceOf_10 ?_
    refine lv_iload_n hx hb dX3_distanceOf_13 rfl (lv_at hl 1 rfl) ?_
    refine q_iald (j := t) hx hb hK hP 5 0 rfl rfl (by omega) (by decide) dX3_distanceOf_14 ?_
    refine lv_bipush (v := (-6)) hx hb dX3_distanceOf_15 (by decide) ?_
    refine lv_icmp_ne (tgt := 24) hx hb dX3_distanceOf_17 (by decide) (fun c_17 => ?_) (fun c_17 => ?_)
    · skip
      refine lv_aload_n hx hb dX3_distanceOf_24 rfl (lv_at hl 0 rfl) ?_
      refine va_get (D := g.1) (ci := 2) (v := .ref (q 5)) (C := RX3) (T := TX3) (N := 12) hx hb hts hi_X3 hown hK hP 0 rfl rfl 4 (by decide) fl_24 (fun _ h9 => h9) rfl dX3_distanceOf_25 ?_
      refine lv_iload_n hx hb dX3_distanceOf_28 rfl (lv_at hl 1 rfl) ?_
      refine q_iald (j := t) hx hb hK hP 5 0 rfl rfl (by omega) (by decide) dX3_distanceOf_29 ?_
      refine lv_aload_n hx hb dX3_distanceOf_30 rfl (lv_at hl 0 rfl) ?_
      refine va_get (D := g.1) (ci := 2) (v := .int (s_tru S)) (C := RX3) (T := TX3) (N := 12) hx hb hts hi_X3 hown hK hP 0 rfl rfl 11 (by decide) fl_43 (fun _ h9 => h9) rfl dX3_distanceOf_31 ?_
      refine lv_isub hx hb dX3_distanceOf_34 ?_
      refine va_mabs hx hb (hml.trans hl.1.symm) hown (hts (.methodLink RX3 127 Lib.Math.abs.name) (by decide +kernel)) (hts (.static Lib.Math.abs.name) (by decide +kernel)) (hts (.initialized "java/lang/Math") (by decide +kernel)) (hts (.code Lib.Math.abs.name Lib.Math.abs.code 1 (some .int)) (by decide +kernel)) (Nat.le_of_ble_eq_true rfl) (Nat.le_of_ble_eq_true rfl) (Nat.zero_le _) (Nat.zero_le _) dX3_distanceOf_35 ?_
      exact q_iret hx hb hr hlk dX3_distanceOf_38 (by simp only [distS, if_neg c_6, if_neg c_17])
    · skip
      refine lv_sipush (v := 10000) hx hb dX3_distanceOf_20 (by decide) ?_
      exact q_iret hx hb hr hlk dX3_distanceOf_23 (by simp only [distS, if_neg c_6, if_pos c_17])

set_option maxHeartbeats 4000000 in
set_option maxRecDepth 100000 in
theorem c_X3_isAhead (l : Launch) (g : q_G) (q : Nat → Nat) (S : q_St) (t : Nat) (o : Nat) (h1_ : t < 10) (h2_ : o < 10) : q_PM l yX3_isAhead wsX3_isAhead { frames := 3, cells := 0, slots := 0, locals := 69 } [.ref (q 0), .int (nI t), .int (nI o)] (q_B g (q_stW g q S)) (.int (bI (aheS S t o))) := by
  refine q_pm (cc := cX3_isAhead) (maxL := 4) (ret := (some .boolean)) (by decide) rfl (Nat.le_of_ble_eq_true rfl) ?_
  intro p e s m args below meth c ls hx hb hml hown hts hr hlk hB hl
  obtain ⟨hP, hK, hN⟩ := hB
  have hl : lv_has ls 4 [(0, .ref (q 0)), (1, .int (nI t)), (2, .int (nI o))] := hl
  refine lv_aload_n hx hb dX3_isAhead_0 rfl (lv_at hl 0 rfl) ?_
  refine lv_iload_n hx hb dX3_isAhead_1 rfl (lv_at hl 1 rfl) ?_
  refine q_V (As := [.int (nI t)]) (rest := []) ⟨hx, hb, hml, hown, hts⟩ (c_X3_scoreOf l g q S t (by omega)) (cwV 1 hts gX3_isAhead_X3_scoreOf rfl rfl rfl (by decide +kernel) ⟨Nat.le_of_ble_eq_true rfl, Nat.le_of_ble_eq_true rfl⟩) q_B_blind (va_recv hK hP (ci := 2) (q0 := 0) rfl rfl) (q_B_of hP hK hN) rfl hl.1 rfl (Nat.le_of_ble_eq_true rfl) dX3_isAhead_2 (Nat.zero_le _) (Nat.zero_le _) ?_
  refine lv_aload_n hx hb dX3_isAhead_5 rfl (lv_at hl 0 rfl) ?_
  refine lv_iload_n hx hb dX3_isAhead_6 rfl (lv_at hl 2 rfl) ?_
  refine q_V (As := [.int (nI o)]) (rest := [.int (scoS S t)]) ⟨hx, hb, hml, hown, hts⟩ (c_X3_scoreOf l g q S o (by omega)) (cwV 1 hts gX3_isAhead_X3_scoreOf rfl rfl rfl (by decide +kernel) ⟨Nat.le_of_ble_eq_true rfl, Nat.le_of_ble_eq_true rfl⟩) q_B_blind (va_recv hK hP (ci := 2) (q0 := 0) rfl rfl) (q_B_of hP hK hN) rfl hl.1 rfl (Nat.le_of_ble_eq_true rfl) dX3_isAhead_7 (Nat.zero_le _) (Nat.zero_le _) ?_
  refine lv_isub hx hb dX3_isAhead_10 ?_
  refine lv_istore_n (lv' := [(3, .int ((scoS S t) - (scoS S o))), (0, .ref (q 0)), (1, .int (nI t)), (2, .int (nI o))]) hx hb dX3_isAhead_11 rfl hl (by decide) rfl (fun ls hl => ?_)
  refine lv_iload_n hx hb dX3_isAhead_12 rfl (lv_at hl 0 rfl) ?_
  refine lv_if_gt (tgt := 33) hx hb dX3_isAhead_13 (by decide) (fun c_13 => ?_) (fun c_13 => ?_)
  · skip
    refine lv_iconst (v := 1) hx hb dX3_isAhead_33 (by decide) ?_
    refine lv_goto (tgt := 38) hx hb dX3_isAhead_34 (by decide) ?_
    exact q_zret hx hb hr hlk dX3_isAhead_38 (by first | rfl | simp [aheS, bI, c_13])
  · skip
    refine lv_iload_n hx hb dX3_isAhead_16 rfl (lv_at hl 0 rfl) ?_
    refine lv_if_ne (tgt := 37) hx hb dX3_isAhead_17 (by decide) (fun c_17 => ?_) (fun c_17 => ?_)
    · skip
      refine lv_iconst (v := 0) hx hb dX3_isAhead_37 (by decide) ?_
      exact q_zret hx hb hr hlk dX3_isAhead_38 (by first | rfl | simp [aheS, bI, c_13, c_17])
    · skip
      refine lv_aload_n hx hb dX3_isAhead_20 rfl (lv_at hl 1 rfl) ?_
      refine lv_iload_n hx hb dX3_isAhead_21 rfl (lv_at hl 2 rfl) ?_
      refine q_V (As := [.int (nI t)]) (rest := []) ⟨hx, hb, hml, hown, hts⟩ (c_X3_distanceOf l g q S t (by omega)) (cwV 1 hts gX3_isAhead_X3_distanceOf rfl rfl rfl (by decide +kernel) ⟨Nat.le_of_ble_eq_true rfl, Nat.le_of_ble_eq_true rfl⟩) q_B_blind (va_recv hK hP (ci := 2) (q0 := 0) rfl rfl) (q_B_of hP hK hN) rfl hl.1 rfl (Nat.le_of_ble_eq_true rfl) dX3_isAhead_22 (Nat.zero_le _) (Nat.zero_le _) ?_
      refine lv_aload_n hx hb dX3_isAhead_25 rfl (lv_at hl 1 rfl) ?_
      refine lv_iload_n hx hb dX3_isAhead_26 rfl (lv_at hl 3 rfl) ?_
      refine q_V (As := [.int (nI o)]) (rest := [.int (distS S t)]) ⟨hx, hb, hml, hown, hts⟩ (c_X3_distanceOf l g q S o (by omega)) (cwV 1 hts gX3_isAhead_X3_distanceOf rfl rfl rfl (by decide +kernel) ⟨Nat.le_of_ble_eq_true rfl, Nat.le_of_ble_eq_true rfl⟩) q_B_blind (va_recv hK hP (ci := 2) (q0 := 0) rfl rfl) (q_B_of hP hK hN) rfl hl.1 rfl (Nat.le_of_ble_eq_true rfl) dX3_isAhead_27 (Nat.zero_le _) (Nat.zero_le _) ?_
      refine lv_icmp_ge (tgt := 37) hx hb dX3_isAhead_30 (by decide) (fun c_30 => ?_) (fun c_30 => ?_)
      · skip
        refine lv_iconst (v := 0) hx hb dX3_isAhead_37 (by decide) ?_
        exact q_zret hx hb hr hlk dX3_isAhead_38 (by first | rfl | simp [aheS, bI, c_13, c_17, c_30])
      · skip
        refine lv_iconst (v := 1) hx hb dX3_isAhead_33 (by decide) ?_
        refine lv_goto (tgt := 38) hx hb dX3_isAhead_34 (by decide) ?_
        exact q_zret hx hb hr hlk dX3_isAhead_38 (by first | rfl | simp [aheS, bI, c_13, c_17, c_30])

set_option maxHeartbeats 4000000 in
set_option maxRecDepth 100000 in
theorem c_X3_rankOf (l : Launch) (g : q_G) (q : Nat → Nat) (S : q_St) (t : Nat) (h1_ : t < 10) (h2_ : s_n S ≤ 10) : q_PM l yX3_rankOf wsX3_rankOf { frames := 4, cells := 0, slots := 0, locals := 92 } [.ref (q 0), .int (nI t)] (q_B g (q_stW g q S)) (.int (nI (rnkS S t))) := by
  refine q_pm (cc := cX3_rankOf) (maxL := 4) (ret := (some .int)) (by decide) rfl (Nat.le_of_ble_eq_true rfl) ?_
  intro p e s m args below meth c ls hx hb hml hown hts hr hlk hB hl
  obtain ⟨hP, hK, hN⟩ := hB
  have fl_66 := hts (.fieldLink RX3 66 "PubQuizzes$State" "teams" "I") (by decide +kernel)
  have hi_X3 : ∀ w ∈ u_ws RX3 TX3 12, w ∈ wsX3_rankOf := by decide +kernel
  have hl : lv_has ls 4 [(0, .ref (q 0)), (1, .int (nI t))] := hl
  refine lv_iconst (v := 1) hx hb dX3_rankOf_0 (by decide) ?_
  refine lv_istore_n (lv' := [(2, .int 1), (0, .ref (q 0)), (1, .int (nI t))]) hx hb dX3_rankOf_1 rfl hl (by decide) rfl (fun ls hl => ?_)
  refine lv_iconst (v := 0) hx hb dX3_rankOf_2 (by decide) ?_
  refine lv_istore_n (lv' := [(3, .int 0), (2, .int 1), (0, .ref (q 0)), (1, .int (nI t))]) hx hb dX3_rankOf_3 rfl hl (by decide) rfl (fun ls hl => ?_)
  have L_4 : ∀ (n i4 : Nat) (y2_4 : Int32), y2_4 = nI (q_cnt (fun o => aheS S o t) i4 + 1) → i4 ≤ s_n S → s_n S < i4 + n → ∀ ls : Array Slot, lv_has ls 4 [(3, .int (nI i4)), (2, .int y2_4), (0, .ref (q 0)), (1, .int (nI t))] → W p l e { frames := 4, cells := 0, slots := 0, locals := 92 } s m args below meth c s.heap [] 0 0 (MQ below (k2_QcV (.int (nI (rnkS S t)))) args s 0 0 (fun _ => False)) (F0 m 4 ls []) := by
    intro n
    induction n with
    | zero => intro i4 y2_4 ey2_4 hi_i4 hn_i4; exact absurd hn_i4 (by omega)
    | succ n ih_i4 =>
      intro i4 y2_4 ey2_4 hi_i4 hn_i4 ls hl
      subst ey2_4
      refine lv_iload_n hx hb dX3_rankOf_4 rfl (lv_at hl 0 rfl) ?_
      refine lv_aload_n hx hb dX3_rankOf_5 rfl (lv_at hl 2 rfl) ?_
      refine va_get (D := g.1) (ci := 2) (v := .int (nI (s_n S))) (C := RX3) (T := TX3) (N := 12) hx hb hts hi_X3 hown hK hP 0 rfl rfl 10 (by decide) fl_66 (fun _ h9 => h9) rfl dX3_rankOf_6 ?_
      refine lv_icmp_ge (tgt := 35) hx hb dX3_rankOf_9 (by decide) (fun c_9 => ?_) (fun c_9 => ?_)
      · skip
        have e_9 : i4 = s_n S := q_ge_T (by omega) hi_i4 c_9
        subst e_9
        refine lv_iload_n hx hb dX3_rankOf_35 rfl (lv_at hl 1 rfl) ?_
        exact q_iret hx hb hr hlk dX3_rankOf_36 (rfl)
      · skip
        have lt_i4 : i4 < s_n S := q_ge_F (by omega) hi_i4 c_9
        refine lv_iload_n hx hb dX3_rankOf_12 rfl (lv_at hl 1 rfl) ?_
        refine lv_aload_n hx hb dX3_rankOf_13 rfl (lv_at hl 2 rfl) ?_
        refine lv_iload_n hx hb dX3_rankOf_14 rfl (lv_at hl 0 rfl) ?_
        refine lv_iload_n hx hb dX3_rankOf_15 rfl (lv_at hl 3 rfl) ?_
        refine q_V (As := [.int (nI i4), .int (nI t)]) (rest := [.int (nI (q_cnt (fun o => aheS S o t) i4 + 1))]) ⟨hx, hb, hml, hown, hts⟩ (c_X3_isAhead l g q S i4 t (by omega) (by omega)) (cwV 2 hts gX3_rankOf_X3_isAhead rfl rfl rfl (by decide +kernel) ⟨Nat.le_of_ble_eq_true rfl, Nat.le_of_ble_eq_true rfl⟩) q_B_blind (va_recv hK hP (ci := 2) (q0 := 0) rfl rfl) (q_B_of hP hK hN) rfl hl.1 rfl (Nat.le_of_ble_eq_true rfl) dX3_rankOf_16 (Nat.zero_le _) (Nat.zero_le _) ?_
        refine lv_if_eq (tgt := 26) hx hb dX3_rankOf_19 (by decide) (fun c_19 => ?_) (fun c_19 => ?_)
        · skip
          have c_19 : (aheS S i4 t) = false := bI_eq c_19
          refine lv_iconst (v := 0) hx hb dX3_rankOf_26 (by decide) ?_
          refine lv_iadd hx hb dX3_rankOf_27 ?_
          refine lv_istore_n (lv' := [(2, .int ((nI (q_cnt (fun o => aheS S o t) i4 + 1)) + 0)), (3, .int (nI i4)), (0, .ref (q 0)), (1, .int (nI t))]) hx hb dX3_rankOf_28 rfl hl (by decide) rfl (fun ls hl => ?_)
          refine lv_iinc (v := nI (i4 + 1)) (lv' := [(3, .int (nI (i4 + 1))), (2, .int ((nI (q_cnt (fun o => aheS S o t) i4 + 1)) + 0)), (0, .ref (q 0)), (1, .int (nI t))]) hx hb dX3_rankOf_29 hl (k := 1) rfl (nI_1 _) (by decide) rfl (fun ls hl => ?_)
          refine lv_goto (tgt := 4) hx hb dX3_rankOf_32 (by decide) ?_
          exact ih_i4 (i4 + 1) ((nI (q_cnt (fun o => aheS S o t) i4 + 1)) + 0) (by first | rfl | simp [q_acc, q_or, q_cnt, q_any, nI_1, c_19]) lt_i4 (by omega) ls (lv_sub hl [0, 1, 2, 3] rfl)
        · skip
          have c_19 : (aheS S i4 t) = true := bI_ne c_19
          refine lv_iconst (v := 1) hx hb dX3_rankOf_22 (by decide) ?_
          refine lv_goto (tgt := 27) hx hb dX3_rankOf_23 (by decide) ?_
          refine lv_iadd hx hb dX3_rankOf_27 ?_
          refine lv_istore_n (lv' := [(2, .int ((nI (q_cnt (fun o => aheS S o t) i4 + 1)) + 1)), (3, .int (nI i4)), (0, .ref (q 0)), (1, .int (nI t))]) hx hb dX3_rankOf_28 rfl hl (by decide) rfl (fun ls hl => ?_)
          refine lv_iinc (v := nI (i4 + 1)) (lv' := [(3, .int (nI (i4 + 1))), (2, .int ((nI (q_cnt (fun o => aheS S o t) i4 + 1)) + 1)), (0, .ref (q 0)), (1, .int (nI t))]) hx hb dX3_rankOf_29 hl (k := 1) rfl (nI_1 _) (by decide) rfl (fun ls hl => ?_)
          refine lv_goto (tgt := 4) hx hb dX3_rankOf_32 (by decide) ?_
          exact ih_i4 (i4 + 1) ((nI (q_cnt (fun o => aheS S o t) i4 + 1)) + 1) (by first | rfl | simp [q_acc, q_or, q_cnt, q_any, nI_1, c_19]) lt_i4 (by omega) ls (lv_sub hl [0, 1, 2, 3] rfl)
  exact L_4 (s_n S + 1) 0 1 (rfl) (Nat.zero_le _) (by omega) ls (lv_sub hl [0, 1, 2, 3] rfl)

set_option maxHeartbeats 4000000 in
set_option maxRecDepth 100000 in
theorem c_X3_tiedWith (l : Launch) (g : q_G) (q : Nat → Nat) (S : q_St) (t : Nat) (h1_ : t < 10) (h2_ : s_n S ≤ 10) : q_PM l yX3_tiedWith wsX3_tiedWith { frames := 4, cells := 0, slots := 0, locals := 92 } [.ref (q 0), .int (nI t)] (q_B g (q_stW g q S)) (.int (tieS S t)) := by
  refine q_pm (cc := cX3_tiedWith) (maxL := 4) (ret := (some .int)) (by decide) rfl (Nat.le_of_ble_eq_true rfl) ?_
  intro p e s m args below meth c ls hx hb hml hown hts hr hlk hB hl
  obtain ⟨hP, hK, hN⟩ := hB
  have fl_66 := hts (.fieldLink RX3 66 "PubQuizzes$State" "teams" "I") (by decide +kernel)
  have hi_X3 : ∀ w ∈ u_ws RX3 TX3 12, w ∈ wsX3_tiedWith := by decide +kernel
  have hl : lv_has ls 4 [(0, .ref (q 0)), (1, .int (nI t))] := hl
  refine lv_iconst (v := 0) hx hb dX3_tiedWith_0 (by decide) ?_
  refine lv_istore_n (lv' := [(2, .int 0), (0, .ref (q 0)), (1, .int (nI t))]) hx hb dX3_tiedWith_1 rfl hl (by decide) rfl (fun ls hl => ?_)
  refine lv_iconst (v := 0) hx hb dX3_tiedWith_2 (by decide) ?_
  refine lv_istore_n (lv' := [(3, .int 0), (2, .int 0), (0, .ref (q 0)), (1, .int (nI t))]) hx hb dX3_tiedWith_3 rfl hl (by decide) rfl (fun ls hl => ?_)
  have L_4 : ∀ (n i4 : Nat) (y2_4 : Int32), y2_4 = q_or (tie1 S t) i4 → i4 ≤ s_n S → s_n S < i4 + n → ∀ ls : Array Slot, lv_has ls 4 [(3, .int (nI i4)), (2, .int y2_4), (0, .ref (q 0)), (1, .int (nI t))] → W p l e { frames := 4, cells := 0, slots := 0, locals := 92 } s m args below meth c s.heap [] 0 0 (MQ below (k2_QcV (.int (tieS S t))) args s 0 0 (fun _ => False)) (F0 m 4 ls []) := by
    intro n
    induction n with
    | zero => intro i4 y2_4 ey2_4 hi_i4 hn_i4; exact absurd hn_i4 (by omega)
    | succ n ih_i4 =>
      intro i4 y2_4 ey2_4 hi_i4 hn_i4 ls hl
      subst ey2_4
      refine lv_iload_n hx hb dX3_tiedWith_4 rfl (lv_at hl 0 rfl) ?_
      refine lv_aload_n hx hb dX3_tiedWith_5 rfl (lv_at hl 2 rfl) ?_
      refine va_get (D := g.1) (ci := 2) (v := .int (nI (s_n S))) (C := RX3) (T := TX3) (N := 12) hx hb hts hi_X3 hown hK hP 0 rfl rfl 10 (by decide) fl_66 (fun _ h9 => h9) rfl dX3_tiedWith_6 ?_
      refine lv_icmp_ge (tgt := 47) hx hb dX3_tiedWith_9 (by decide) (fun c_9 => ?_) (fun c_9 => ?_)
      · skip
        have e_9 : i4 = s_n S := q_ge_T (by omega) hi_i4 c_9
        subst e_9
        refine lv_iload_n hx hb dX3_tiedWith_47 rfl (lv_at hl 1 rfl) ?_
        exact q_iret hx hb hr hlk dX3_tiedWith_48 (rfl)
      · skip
        have lt_i4 : i4 < s_n S := q_ge_F (by omega) hi_i4 c_9
        refine lv_iload_n hx hb dX3_tiedWith_12 rfl (lv_at hl 0 rfl) ?_
        refine lv_iload_n hx hb dX3_tiedWith_13 rfl (lv_at hl 3 rfl) ?_
        refine lv_icmp_eq (tgt := 41) hx hb dX3_tiedWith_14 (by decide) (fun c_14 => ?_) (fun c_14 => ?_)
        · skip
          refine lv_iinc (v := nI (i4 + 1)) (lv' := [(3, .int (nI (i4 + 1))), (2, .int (q_or (tie1 S t) i4)), (0, .ref (q 0)), (1, .int (nI t))]) hx hb dX3_tiedWith_41 hl (k := 0) rfl (nI_1 _) (by decide) rfl (fun ls hl => ?_)
          refine lv_goto (tgt := 4) hx hb dX3_tiedWith_44 (by decide) ?_
          exact ih_i4 (i4 + 1) (q_or (tie1 S t) i4) (by first | rfl | simp [q_acc, q_or, q_cnt, q_any, nI_1, tie1, c_14]) lt_i4 (by omega) ls (lv_sub hl [0, 1, 2, 3] rfl)
        · skip
          refine lv_aload_n hx hb dX3_tiedWith_17 rfl (lv_at hl 2 rfl) ?_
          refine lv_iload_n hx hb dX3_tiedWith_18 rfl (lv_at hl 0 rfl) ?_
          refine lv_iload_n hx hb dX3_tiedWith_19 rfl (lv_at hl 3 rfl) ?_
          refine q_V (As := [.int (nI i4), .int (nI t)]) (rest := []) ⟨hx, hb, hml, hown, hts⟩ (c_X3_isAhead l g q S i4 t (by omega) (by omega)) (cwV 2 hts gX3_tiedWith_X3_isAhead rfl rfl rfl (by decide +kernel) ⟨Nat.le_of_ble_eq_true rfl, Nat.le_of_ble_eq_true rfl⟩) q_B_blind (va_recv hK hP (ci := 2) (q0 := 0) rfl rfl) (q_B_of hP hK hN) rfl hl.1 rfl (Nat.le_of_ble_eq_true rfl) dX3_tiedWith_20 (Nat.zero_le _) (Nat.zero_le _) ?_
          refine lv_if_ne (tgt := 41) hx hb dX3_tiedWith_23 (by decide) (fun c_23 => ?_) (fun c_23 => ?_)
          · skip
            have c_23 : (aheS S i4 t) = true := bI_ne c_23
            refine lv_iinc (v := nI (i4 + 1)) (lv' := [(3, .int (nI (i4 + 1))), (2, .int (q_or (tie1 S t) i4)), (0, .ref (q 0)), (1, .int (nI t))]) hx hb dX3_tiedWith_41 hl (k := 0) rfl (nI_1 _) (by decide) rfl (fun ls hl => ?_)
            refine lv_goto (tgt := 4) hx hb dX3_tiedWith_44 (by decide) ?_
            exact ih_i4 (i4 + 1) (q_or (tie1 S t) i4) (by first | rfl | simp [q_acc, q_or, q_cnt, q_any, nI_1, tie1, c_14, c_23]) lt_i4 (by omega) ls (lv_sub hl [0, 1, 2, 3] rfl)
          · skip
            have c_23 : (aheS S i4 t) = false := bI_eq c_23
            refine lv_aload_n hx hb dX3_tiedWith_26 rfl (lv_at hl 2 rfl) ?_
            refine lv_iload_n hx hb dX3_tiedWith_27 rfl (lv_at hl 3 rfl) ?_
            refine lv_iload_n hx hb dX3_tiedWith_28 rfl (lv_at hl 0 rfl) ?_
            refine q_V (As := [.int (nI t), .int (nI i4)]) (rest := []) ⟨hx, hb, hml, hown, hts⟩ (c_X3_isAhead l g q S t i4 (by omega) (by omega)) (cwV 2 hts gX3_tiedWith_X3_isAhead rfl rfl rfl (by decide +kernel) ⟨Nat.le_of_ble_eq_true rfl, Nat.le_of_ble_eq_true rfl⟩) q_B_blind (va_recv hK hP (ci := 2) (q0 := 0) rfl rfl) (q_B_of hP hK hN) rfl hl.1 rfl (Nat.le_of_ble_eq_true rfl) dX3_tiedWith_29 (Nat.zero_le _) (Nat.zero_le _) ?_
            refine lv_if_ne (tgt := 41) hx hb dX3_tiedWith_32 (by decide) (fun c_32 => ?_) (fun c_32 => ?_)
            · skip
              have c_32 : (aheS S t i4) = true := bI_ne c_32
              refine lv_iinc (v := nI (i4 + 1)) (lv' := [(3, .int (nI (i4 + 1))), (2, .int (q_or (tie1 S t) i4)), (0, .ref (q 0)), (1, .int (nI t))]) hx hb dX3_tiedWith_41 hl (k := 0) rfl (nI_1 _) (by decide) rfl (fun ls hl => ?_)
              refine lv_goto (tgt := 4) hx hb dX3_tiedWith_44 (by decide) ?_
              exact ih_i4 (i4 + 1) (q_or (tie1 S t) i4) (by first | rfl | simp [q_acc, q_or, q_cnt, q_any, nI_1, tie1, c_14, c_23, c_32]) lt_i4 (by omega) ls (lv_sub hl [0, 1, 2, 3] rfl)
            · skip
              have c_32 : (aheS S t i4) = false := bI_eq c_32
              refine lv_iload_n hx hb dX3_tiedWith_35 rfl (lv_at hl 1 rfl) ?_
              refine lv_iconst (v := 1) hx hb dX3_tiedWith_36 (by decide) ?_
              refine lv_iload_n hx hb dX3_tiedWith_37 rfl (lv_at hl 0 rfl) ?_
              refine lv_ishl hx hb dX3_tiedWith_38 ?_
              refine lv_ior hx hb dX3_tiedWith_39 ?_
              refine lv_istore_n (lv' := [(2, .int ((q_or (tie1 S t) i4) ||| (1 <<< ((nI i4) &&& 31)))), (3, .int (nI i4)), (0, .ref (q 0)), (1, .int (nI t))]) hx hb dX3_tiedWith_40 rfl hl (by decide) rfl (fun ls hl => ?_)
              refine lv_iinc (v := nI (i4 + 1)) (lv' := [(3, .int (nI (i4 + 1))), (2, .int ((q_or (tie1 S t) i4) ||| (1 <<< ((nI i4) &&& 31)))), (0, .ref (q 0)), (1, .int (nI t))]) hx hb dX3_tiedWith_41 hl (k := 1) rfl (nI_1 _) (by decide) rfl (fun ls hl => ?_)
              refine lv_goto (tgt := 4) hx hb dX3_tiedWith_44 (by decide) ?_
              exact ih_i4 (i4 + 1) ((q_or (tie1 S t) i4) ||| (1 <<< ((nI i4) &&& 31))) (by first | rfl | simp [q_acc, q_or, q_cnt, q_any, nI_1, tie1, c_14, c_23, c_32]) lt_i4 (by omega) ls (lv_sub hl [0, 1, 2, 3] rfl)
  exact L_4 (s_n S + 1) 0 0 (rfl) (Nat.zero_le _) (by omega) ls (lv_sub hl [0, 1, 2, 3] rfl)

set_option maxHeartbeats 4000000 in
set_option maxRecDepth 100000 in
theorem c_X3_lowerIn (l : Launch) (x : Int32) (t : Nat) : q_PM l yX3_lowerIn wsX3_lowerIn { frames := 1, cells := 0, slots := 0, locals := 20 } [.int x, .int (nI t)] (fun _ => True) (.int (popc (lowM x t))) := by
  refine q_pm (cc := cX3_lowerIn) (maxL := 2) (ret := (some .int)) (by decide) rfl (Nat.le_of_ble_eq_true rfl) ?_
  intro p e s m args below meth c ls hx hb hml hown hts hr hlk _ hl
  have hl : lv_has ls 2 [(0, .int x), (1, .int (nI t))] := hl
  refine lv_iload_n hx hb dX3_lowerIn_0 rfl (lv_at hl 0 rfl) ?_
  refine lv_iconst (v := 1) hx hb dX3_lowerIn_1 (by decide) ?_
  refine lv_iload_n hx hb dX3_lowerIn_2 rfl (lv_at hl 1 rfl) ?_
  refine lv_ishl hx hb dX3_lowerIn_3 ?_
  refine lv_iconst (v := 1) hx hb dX3_lowerIn_4 (by decide) ?_
  refine lv_isub hx hb dX3_lowerIn_5 ?_
  refine lv_iand hx hb dX3_lowerIn_6 ?_
  refine q_S (As := [.int (x &&& ((1 <<< ((nI t) &&& 31)) - 1))]) (rest := []) ⟨hx, hb, hml, hown, hts⟩ (c_J6_bitCount_0f7a4 l (x &&& ((1 <<< ((nI t) &&& 31)) - 1)) ) (va_cwS 1 hts gX3_lowerIn_J6_bitCount_0f7a4 rfl rfl rfl (by decide +kernel) ⟨Nat.le_of_ble_eq_true rfl, Nat.le_of_ble_eq_true rfl⟩) q_Blind_t (fun _ _ _ => trivial) rfl hl.1 rfl (Nat.le_of_ble_eq_true rfl) dX3_lowerIn_7 (Nat.zero_le _) (Nat.zero_le _) ?_
  exact q_iret hx hb hr hlk dX3_lowerIn_10 (rfl)

set_option maxHeartbeats 4000000 in
set_option maxRecDepth 100000 in
theorem c_X3_placeOf (l : Launch) (g : q_G) (q : Nat → Nat) (S : q_St) (t : Nat) (h1_ : t < 10) (h2_ : s_n S ≤ 10) (h3_ : t ≤ s_n S) : q_PM l yX3_placeOf wsX3_placeOf { frames := 5, cells := 0, slots := 0, locals := 115 } [.ref (q 0), .int (nI t)] (q_B g (q_stW g q S)) (.int (plcS S t)) := by
  refine q_pm (cc := cX3_placeOf) (maxL := 2) (ret := (some .int)) (by decide) rfl (Nat.le_of_ble_eq_true rfl) ?_
  intro p e s m args below meth c ls hx hb hml hown hts hr hlk hB hl
  obtain ⟨hP, hK, hN⟩ := hB
  have hl : lv_has ls 2 [(0, .ref (q 0)), (1, .int (nI t))] := hl
  refine lv_aload_n hx hb dX3_placeOf_0 rfl (lv_at hl 0 rfl) ?_
  refine lv_iload_n hx hb dX3_placeOf_1 rfl (lv_at hl 1 rfl) ?_
  refine q_V (As := [.int (nI t)]) (rest := []) ⟨hx, hb, hml, hown, hts⟩ (c_X3_rankOf l g q S t (by omega) (by omega)) (cwV 1 hts gX3_placeOf_X3_rankOf rfl rfl rfl (by decide +kernel) ⟨Nat.le_of_ble_eq_true rfl, Nat.le_of_ble_eq_true rfl⟩) q_B_blind (va_recv hK hP (ci := 2) (q0 := 0) rfl rfl) (q_B_of hP hK hN) rfl hl.1 rfl (Nat.le_of_ble_eq_true rfl) dX3_placeOf_2 (Nat.zero_le _) (Nat.zero_le _) ?_
  refine lv_iconst (v := 1) hx hb dX3_placeOf_5 (by decide) ?_
  refine lv_isub hx hb dX3_placeOf_6 ?_
  refine lv_aload_n hx hb dX3_placeOf_7 rfl (lv_at hl 0 rfl) ?_
  refine lv_iload_n hx hb dX3_placeOf_8 rfl (lv_at hl 1 rfl) ?_
  refine q_V (As := [.int (nI t)]) (rest := [.int ((nI (rnkS S t)) - 1)]) ⟨hx, hb, hml, hown, hts⟩ (c_X3_tiedWith l g q S t (by omega) (by omega)) (cwV 1 hts gX3_placeOf_X3_tiedWith rfl rfl rfl (by decide +kernel) ⟨Nat.le_of_ble_eq_true rfl, Nat.le_of_ble_eq_true rfl⟩) q_B_blind (va_recv hK hP (ci := 2) (q0 := 0) rfl rfl) (q_B_of hP hK hN) rfl hl.1 rfl (Nat.le_of_ble_eq_true rfl) dX3_placeOf_9 (Nat.zero_le _) (Nat.zero_le _) ?_
  refine lv_iload_n hx hb dX3_placeOf_12 rfl (lv_at hl 1 rfl) ?_
  refine q_S (As := [.int (tieS S t), .int (nI t)]) (rest := [.int ((nI (rnkS S t)) - 1)]) ⟨hx, hb, hml, hown, hts⟩ (c_X3_lowerIn l (tieS S t) t ) (va_cwS 2 hts gX3_placeOf_X3_lowerIn rfl rfl rfl (by decide +kernel) ⟨Nat.le_of_ble_eq_true rfl, Nat.le_of_ble_eq_true rfl⟩) q_Blind_t (fun _ _ _ => trivial) rfl hl.1 rfl (Nat.le_of_ble_eq_true rfl) dX3_placeOf_13 (Nat.zero_le _) (Nat.zero_le _) ?_
  refine lv_iadd hx hb dX3_placeOf_16 ?_
  exact q_iret hx hb hr hlk dX3_placeOf_17 (by rw [tieS, q_lowC (tie1 S t) t (s_n S) h3_ h1_ h2_]; rfl)

set_option maxHeartbeats 4000000 in
set_option maxRecDepth 100000 in
theorem c_X3_entries (l : Launch) (g : q_G) (q : Nat → Nat) (S : q_St) (h1_ : s_n S ≤ 10) : q_PM l yX3_entries wsX3_entries { frames := 0, cells := 0, slots := 0, locals := 0 } [.ref (q 0)] (q_B g (q_stW g q S)) (.int (entS S)) := by
  refine q_pm (cc := cX3_entries) (maxL := 3) (ret := (some .int)) (by decide) rfl (Nat.le_of_ble_eq_true rfl) ?_
  intro p e s m args below meth c ls hx hb hml hown hts hr hlk hB hl
  obtain ⟨hP, hK, hN⟩ := hB
  have fl_15 := hts (.fieldLink RX3 15 "PubQuizzes$State" "paid" "[I") (by decide +kernel)
  have fl_66 := hts (.fieldLink RX3 66 "PubQuizzes$State" "teams" "I") (by decide +kernel)
  have hi_X3 : ∀ w ∈ u_ws RX3 TX3 12, w ∈ wsX3_entries := by decide +kernel
  have hl : lv_has ls 3 [(0, .ref (q 0))] := hl
  refine lv_iconst (v := 0) hx hb dX3_entries_0 (by decide) ?_
  refine lv_istore_n (lv' := [(1, .int 0), (0, .ref (q 0))]) hx hb dX3_entries_1 rfl hl (by decide) rfl (fun ls hl => ?_)
  refine lv_iconst (v := 0) hx hb dX3_entries_2 (by decide) ?_
  refine lv_istore_n (lv' := [(2, .int 0), (1, .int 0), (0, .ref (q 0))]) hx hb dX3_entries_3 rfl hl (by decide) rfl (fun ls hl => ?_)
  have L_4 : ∀ (n i4 : Nat) (y1_4 : Int32), y1_4 = q_acc 0 (s_paid S) i4 → i4 ≤ s_n S → s_n S < i4 + n → ∀ ls : Array Slot, lv_has ls 3 [(2, .int (nI i4)), (1, .int y1_4), (0, .ref (q 0))] → W p l e { frames := 0, cells := 0, slots := 0, locals := 0 } s m args below meth c s.heap [] 0 0 (MQ below (k2_QcV (.int (entS S))) args s 0 0 (fun _ => False)) (F0 m 4 ls []) := by
    intro n
    induction n with
    | zero => intro i4 y1_4 ey1_4 hi_i4 hn_i4; exact absurd hn_i4 (by omega)
    | succ n ih_i4 =>
      intro i4 y1_4 ey1_4 hi_i4 hn_i4 ls hl
      subst ey1_4
      refine lv_iload_n hx hb dX3_entries_4 rfl (lv_at hl 0 rfl) ?_
      refine lv_aload_n hx hb dX3_entries_5 rfl (lv_at hl 2 rfl) ?_
      refine va_get (D := g.1) (ci := 2) (v := .int (nI (s_n S))) (C := RX3) (T := TX3) (N := 12) hx hb hts hi_X3 hown hK hP 0 rfl rfl 10 (by decide) fl_66 (fun _ h9 => h9) rfl dX3_entries_6 ?_
      refine lv_icmp_ge (tgt := 27) hx hb dX3_entries_9 (by decide) (fun c_9 => ?_) (fun c_9 => ?_)
      · skip
        have e_9 : i4 = s_n S := q_ge_T (by omega) hi_i4 c_9
        subst e_9
        refine lv_iload_n hx hb dX3_entries_27 rfl (lv_at hl 1 rfl) ?_
        exact q_iret hx hb hr hlk dX3_entries_28 (rfl)
      · skip
        have lt_i4 : i4 < s_n S := q_ge_F (by omega) hi_i4 c_9
        refine lv_iload_n hx hb dX3_entries_12 rfl (lv_at hl 1 rfl) ?_
        refine lv_aload_n hx hb dX3_entries_13 rfl (lv_at hl 2 rfl) ?_
        refine va_get (D := g.1) (ci := 2) (v := .ref (q 2)) (C := RX3) (T := TX3) (N := 12) hx hb hts hi_X3 hown hK hP 0 rfl rfl 1 (by decide) fl_15 (fun _ h9 => h9) rfl dX3_entries_14 ?_
        refine lv_iload_n hx hb dX3_entries_17 rfl (lv_at hl 0 rfl) ?_
        refine q_iald (j := i4) hx hb hK hP 2 0 rfl rfl (by omega) (by decide) dX3_entries_18 ?_
        refine lv_iadd hx hb dX3_entries_19 ?_
        refine lv_istore_n (lv' := [(1, .int ((q_acc 0 (s_paid S) i4) + (s_paid S i4))), (2, .int (nI i4)), (0, .ref (q 0))]) hx hb dX3_entries_20 rfl hl (by decide) rfl (fun ls hl => ?_)
        refine lv_iinc (v := nI (i4 + 1)) (lv' := [(2, .int (nI (i4 + 1))), (1, .int ((q_acc 0 (s_paid S) i4) + (s_paid S i4))), (0, .ref (q 0))]) hx hb dX3_entries_21 hl (k := 1) rfl (nI_1 _) (by decide) rfl (fun ls hl => ?_)
        refine lv_goto (tgt := 4) hx hb dX3_entries_24 (by decide) ?_
        exact ih_i4 (i4 + 1) ((q_acc 0 (s_paid S) i4) + (s_paid S i4)) (by first | rfl | simp [q_acc, q_or, q_cnt, q_any, nI_1, bI_t]) lt_i4 (by omega) ls (lv_sub hl [0, 1, 2] rfl)
  exact L_4 (s_n S + 1) 0 0 (rfl) (Nat.zero_le _) (by omega) ls (lv_sub hl [0, 1, 2] rfl)

set_option maxHeartbeats 4000000 in
set_option maxRecDepth 100000 in
theorem c_X3_ofTheHouse (l : Launch) (g : q_G) (q : Nat → Nat) (S : q_St) (h1_ : s_n S ≤ 10) : q_PM l yX3_ofTheHouse wsX3_ofTheHouse { frames := 1, cells := 0, slots := 0, locals := 22 } [.ref (q 0)] (q_B g (q_stW g q S)) (.int (houS S)) := by
  refine q_pm (cc := cX3_ofTheHouse) (maxL := 1) (ret := (some .int)) (by decide) rfl (Nat.le_of_ble_eq_true rfl) ?_
  intro p e s m args below meth c ls hx hb hml hown hts hr hlk hB hl
  obtain ⟨hP, hK, hN⟩ := hB
  have fl_9 := hts (.fieldLink RX3 9 "PubQuizzes$State" "settings" "[I") (by decide +kernel)
  have hi_X3 : ∀ w ∈ u_ws RX3 TX3 12, w ∈ wsX3_ofTheHouse := by decide +kernel
  have hl : lv_has ls 1 [(0, .ref (q 0))] := hl
  refine lv_aload_n hx hb dX3_ofTheHouse_0 rfl (lv_at hl 0 rfl) ?_
  refine q_V (As := []) (rest := []) ⟨hx, hb, hml, hown, hts⟩ (c_X3_entries l g q S  (by omega)) (cwV 0 hts gX3_ofTheHouse_X3_entries rfl rfl rfl (by decide +kernel) ⟨Nat.le_of_ble_eq_true rfl, Nat.le_of_ble_eq_true rfl⟩) q_B_blind (va_recv hK hP (ci := 2) (q0 := 0) rfl rfl) (q_B_of hP hK hN) rfl hl.1 rfl (Nat.le_of_ble_eq_true rfl) dX3_ofTheHouse_1 (Nat.zero_le _) (Nat.zero_le _) ?_
  refine lv_aload_n hx hb dX3_ofTheHouse_4 rfl (lv_at hl 0 rfl) ?_
  refine va_get (D := g.1) (ci := 2) (v := .ref (q 1)) (C := RX3) (T := TX3) (N := 12) hx hb hts hi_X3 hown hK hP 0 rfl rfl 0 (by decide) fl_9 (fun _ h9 => h9) rfl dX3_ofTheHouse_5 ?_
  refine lv_iconst (v := 1) hx hb dX3_ofTheHouse_8 (by decide) ?_
  refine q_iald (j := 1) hx hb hK hP 1 0 rfl rfl (by omega) (by decide) dX3_ofTheHouse_9 ?_
  refine lv_imul hx hb dX3_ofTheHouse_10 ?_
  refine lv_bipush (v := 100) hx hb dX3_ofTheHouse_11 (by decide) ?_
  refine lv_idiv hx hb dX3_ofTheHouse_13 (by decide) ?_
  exact q_iret hx hb hr hlk dX3_ofTheHouse_14 (rfl)

set_option maxHeartbeats 4000000 in
set_option maxRecDepth 100000 in
theorem c_X3_pot (l : Launch) (g : q_G) (q : Nat → Nat) (S : q_St) (h1_ : s_n S ≤ 10) : q_PM l yX3_pot wsX3_pot { frames := 2, cells := 0, slots := 0, locals := 42 } [.ref (q 0)] (q_B g (q_stW g q S)) (.int (potS S)) := by
  refine q_pm (cc := cX3_pot) (maxL := 1) (ret := (some .int)) (by decide) rfl (Nat.le_of_ble_eq_true rfl) ?_
  intro p e s m args below meth c ls hx hb hml hown hts hr hlk hB hl
  obtain ⟨hP, hK, hN⟩ := hB
  have hl : lv_has ls 1 [(0, .ref (q 0))] := hl
  refine lv_aload_n hx hb dX3_pot_0 rfl (lv_at hl 0 rfl) ?_
  refine q_V (As := []) (rest := []) ⟨hx, hb, hml, hown, hts⟩ (c_X3_entries l g q S  (by omega)) (cwV 0 hts gX3_pot_X3_entries rfl rfl rfl (by decide +kernel) ⟨Nat.le_of_ble_eq_true rfl, Nat.le_of_ble_eq_true rfl⟩) q_B_blind (va_recv hK hP (ci := 2) (q0 := 0) rfl rfl) (q_B_of hP hK hN) rfl hl.1 rfl (Nat.le_of_ble_eq_true rfl) dX3_pot_1 (Nat.zero_le _) (Nat.zero_le _) ?_
  refine lv_aload_n hx hb dX3_pot_4 rfl (lv_at hl 0 rfl) ?_
  refine q_V (As := []) (rest := [.int (entS S)]) ⟨hx, hb, hml, hown, hts⟩ (c_X3_ofTheHouse l g q S  (by omega)) (cwV 0 hts gX3_pot_X3_ofTheHouse rfl rfl rfl (by decide +kernel) ⟨Nat.le_of_ble_eq_true rfl, Nat.le_of_ble_eq_true rfl⟩) q_B_blind (va_recv hK hP (ci := 2) (q0 := 0) rfl rfl) (q_B_of hP hK hN) rfl hl.1 rfl (Nat.le_of_ble_eq_true rfl) dX3_pot_5 (Nat.zero_le _) (Nat.zero_le _) ?_
  refine lv_isub hx hb dX3_pot_8 ?_
  exact q_iret hx hb hr hlk dX3_pot_9 (rfl)

set_option maxHeartbeats 4000000 in
set_option maxRecDepth 100000 in
theorem c_X3_prizeOfPlace (l : Launch) (g : q_G) (q : Nat → Nat) (S : q_St) (x : Int32) (h1_ : s_n S ≤ 10) : q_PM l yX3_prizeOfPlace wsX3_prizeOfPlace { frames := 3, cells := 0, slots := 0, locals := 62 } [.ref (q 0), .int x] (q_B g (q_stW g q S)) (.int (prpS S x)) := by
  refine q_pm (cc := cX3_prizeOfPlace) (maxL := 5) (ret := (some .int)) (by decide) rfl (Nat.le_of_ble_eq_true rfl) ?_
  intro p e s m args below meth c ls hx hb hml hown hts hr hlk hB hl
  obtain ⟨hP, hK, hN⟩ := hB
  have fl_66 := hts (.fieldLink RX3 66 "PubQuizzes$State" "teams" "I") (by decide +kernel)
  have hi_X3 : ∀ w ∈ u_ws RX3 TX3 12, w ∈ wsX3_prizeOfPlace := by decide +kernel
  have hl : lv_has ls 5 [(0, .ref (q 0)), (1, .int x)] := hl
  refine lv_aload_n hx hb dX3_prizeOfPlace_0 rfl (lv_at hl 0 rfl) ?_
  refine q_V (As := []) (rest := []) ⟨hx, hb, hml, hown, hts⟩ (c_X3_pot l g q S  (by omega)) (cwV 0 hts gX3_prizeOfPlace_X3_pot rfl rfl rfl (by decide +kernel) ⟨Nat.le_of_ble_eq_true rfl, Nat.le_of_ble_eq_true rfl⟩) q_B_blind (va_recv hK hP (ci := 2) (q0 := 0) rfl rfl) (q_B_of hP hK hN) rfl hl.1 rfl (Nat.le_of_ble_eq_true rfl) dX3_prizeOfPlace_1 (Nat.zero_le _) (Nat.zero_le _) ?_
  refine lv_istore_n (lv' := [(2, .int (potS S)), (0, .ref (q 0)), (1, .int x)]) hx hb dX3_prizeOfPlace_4 rfl hl (by decide) rfl (fun ls hl => ?_)
  refine lv_aload_n hx hb dX3_prizeOfPlace_5 rfl (lv_at hl 1 rfl) ?_
  refine va_get (D := g.1) (ci := 2) (v := .int (nI (s_n S))) (C := RX3) (T := TX3) (N := 12) hx hb hts hi_X3 hown hK hP 0 rfl rfl 10 (by decide) fl_66 (fun _ h9 => h9) rfl dX3_prizeOfPlace_6 ?_
  refine lv_iconst (v := 2) hx hb dX3_prizeOfPlace_9 (by decide) ?_
  refine lv_icmp_lt (tgt := 23) hx hb dX3_prizeOfPlace_10 (by decide) (fun c_10 => ?_) (fun c_10 => ?_)
  · skip
    refine lv_iconst (v := 0) hx hb dX3_prizeOfPlace_23 (by decide) ?_
    refine lv_istore_n (lv' := [(3, .int 0), (2, .int (potS S)), (0, .ref (q 0)), (1, .int x)]) hx hb dX3_prizeOfPlace_24 rfl hl (by decide) rfl (fun ls hl => ?_)
    refine lv_aload_n hx hb dX3_prizeOfPlace_25 rfl (lv_at hl 2 rfl) ?_
    refine va_get (D := g.1) (ci := 2) (v := .int (nI (s_n S))) (C := RX3) (T := TX3) (N := 12) hx hb hts hi_X3 hown hK hP 0 rfl rfl 10 (by decide) fl_66 (fun _ h9 => h9) rfl dX3_prizeOfPlace_26 ?_
    refine lv_iconst (v := 3) hx hb dX3_prizeOfPlace_29 (by decide) ?_
    refine lv_icmp_lt (tgt := 43) hx hb dX3_prizeOfPlace_30 (by decide) (fun c_30 => ?_) (fun c_30 => ?_)
    · skip
      refine lv_iconst (v := 0) hx hb dX3_prizeOfPlace_43 (by decide) ?_
      refine lv_istore (lv' := [(4, .int 0), (3, .int 0), (2, .int (potS S)), (0, .ref (q 0)), (1, .int x)]) hx hb dX3_prizeOfPlace_44 hl (by decide) rfl (fun ls hl => ?_)
      refine lv_iload_n hx hb dX3_prizeOfPlace_46 rfl (lv_at hl 4 rfl) ?_
      by_cases w_47_1 : x = 1
      · skip
        have tx_47 : (x : Int32).toInt = 1 := by rw [w_47_1]; decide
        refine lv_tableIn (tgt := 72) (off := 25) hx hb dX3_prizeOfPlace_47 (by rw [tx_47]; decide) (by rw [tx_47]; decide) (by rw [tx_47]; rfl) (by decide) ?_
        refine lv_iload_n hx hb dX3_prizeOfPlace_72 rfl (lv_at hl 2 rfl) ?_
        refine lv_iload_n hx hb dX3_prizeOfPlace_73 rfl (lv_at hl 1 rfl) ?_
        refine lv_isub hx hb dX3_prizeOfPlace_74 ?_
        refine lv_iload hx hb dX3_prizeOfPlace_75 (lv_at hl 0 rfl) ?_
        refine lv_isub hx hb dX3_prizeOfPlace_77 ?_
        exact q_iret hx hb hr hlk dX3_prizeOfPlace_78 (by simp only [prpS, secS, thiS, if_pos c_10, if_pos c_30, if_pos w_47_1])
      by_cases w_47_2 : x = 2
      · skip
        have tx_47 : (x : Int32).toInt = 2 := by rw [w_47_2]; decide
        refine lv_tableIn (tgt := 79) (off := 32) hx hb dX3_prizeOfPlace_47 (by rw [tx_47]; decide) (by rw [tx_47]; decide) (by rw [tx_47]; rfl) (by decide) ?_
        refine lv_iload_n hx hb dX3_prizeOfPlace_79 rfl (lv_at hl 1 rfl) ?_
        exact q_iret hx hb hr hlk dX3_prizeOfPlace_80 (by simp only [prpS, secS, thiS, if_pos c_10, if_pos c_30, if_neg w_47_1, if_pos w_47_2])
      by_cases w_47_3 : x = 3
      · skip
        have tx_47 : (x : Int32).toInt = 3 := by rw [w_47_3]; decide
        refine lv_tableIn (tgt := 81) (off := 34) hx hb dX3_prizeOfPlace_47 (by rw [tx_47]; decide) (by rw [tx_47]; decide) (by rw [tx_47]; rfl) (by decide) ?_
        refine lv_iload hx hb dX3_prizeOfPlace_81 (lv_at hl 0 rfl) ?_
        exact q_iret hx hb hr hlk dX3_prizeOfPlace_83 (by simp only [prpS, secS, thiS, if_pos c_10, if_pos c_30, if_neg w_47_1, if_neg w_47_2, if_pos w_47_3])
      have tw_47 := q_tab (n := 3) (lo := 1) (x := x) (by decide) (lt_s (p := fun k => ¬ x = nI (k + 1)) (lt_s (p := fun k => ¬ x = nI (k + 1)) (lt_s (p := fun k => ¬ x = nI (k + 1)) (lt_0) w_47_1) w_47_2) w_47_3)
      refine lv_tableOut (tgt := 84) hx hb dX3_prizeOfPlace_47 (by omega) (by decide) ?_
      refine lv_iconst (v := 0) hx hb dX3_prizeOfPlace_84 (by decide) ?_
      exact q_iret hx hb hr hlk dX3_prizeOfPlace_85 (by simp only [prpS, secS, thiS, if_pos c_10, if_pos c_30, if_neg w_47_1, if_neg w_47_2, if_neg w_47_3])
    · skip
      refine lv_iload_n hx hb dX3_prizeOfPlace_33 rfl (lv_at hl 1 rfl) ?_
      refine lv_bipush (v := 10) hx hb dX3_prizeOfPlace_34 (by decide) ?_
      refine lv_imul hx hb dX3_prizeOfPlace_36 ?_
      refine lv_bipush (v := 100) hx hb dX3_prizeOfPlace_37 (by decide) ?_
      refine lv_idiv hx hb dX3_prizeOfPlace_39 (by decide) ?_
      refine lv_goto (tgt := 44) hx hb dX3_prizeOfPlace_40 (by decide) ?_
      refine lv_istore (lv' := [(4, .int (((potS S) * 10) / 100)), (3, .int 0), (2, .int (potS S)), (0, .ref (q 0)), (1, .int x)]) hx hb dX3_prizeOfPlace_44 hl (by decide) rfl (fun ls hl => ?_)
      refine lv_iload_n hx hb dX3_prizeOfPlace_46 rfl (lv_at hl 4 rfl) ?_
      by_cases w_47_1 : x = 1
      · skip
        have tx_47 : (x : Int32).toInt = 1 := by rw [w_47_1]; decide
        refine lv_tableIn (tgt := 72) (off := 25) hx hb dX3_prizeOfPlace_47 (by rw [tx_47]; decide) (by rw [tx_47]; decide) (by rw [tx_47]; rfl) (by decide) ?_
        refine lv_iload_n hx hb dX3_prizeOfPlace_72 rfl (lv_at hl 2 rfl) ?_
        refine lv_iload_n hx hb dX3_prizeOfPlace_73 rfl (lv_at hl 1 rfl) ?_
        refine lv_isub hx hb dX3_prizeOfPlace_74 ?_
        refine lv_iload hx hb dX3_prizeOfPlace_75 (lv_at hl 0 rfl) ?_
        refine lv_isub hx hb dX3_prizeOfPlace_77 ?_
        exact q_iret hx hb hr hlk dX3_prizeOfPlace_78 (by simp only [prpS, secS, thiS, if_pos c_10, if_neg c_30, if_pos w_47_1])
      by_cases w_47_2 : x = 2
      · skip
        have tx_47 : (x : Int32).toInt = 2 := by rw [w_47_2]; decide
        refine lv_tableIn (tgt := 79) (off := 32) hx hb dX3_prizeOfPlace_47 (by rw [tx_47]; decide) (by rw [tx_47]; decide) (by rw [tx_47]; rfl) (by decide) ?_
        refine lv_iload_n hx hb dX3_prizeOfPlace_79 rfl (lv_at hl 1 rfl) ?_
        exact q_iret hx hb hr hlk dX3_prizeOfPlace_80 (by simp only [prpS, secS, thiS, if_pos c_10, if_neg c_30, if_neg w_47_1, if_pos w_47_2])
      by_cases w_47_3 : x = 3
      · skip
        have tx_47 : (x : Int32).toInt = 3 := by rw [w_47_3]; decide
        refine lv_tableIn (tgt := 81) (off := 34) hx hb dX3_prizeOfPlace_47 (by rw [tx_47]; decide) (by rw [tx_47]; decide) (by rw [tx_47]; rfl) (by decide) ?_
        refine lv_iload hx hb dX3_prizeOfPlace_81 (lv_at hl 0 rfl) ?_
        exact q_iret hx hb hr hlk dX3_prizeOfPlace_83 (by simp only [prpS, secS, thiS, if_pos c_10, if_neg c_30, if_neg w_47_1, if_neg w_47_2, if_pos w_47_3])
      have tw_47 := q_tab (n := 3) (lo := 1) (x := x) (by decide) (lt_s (p := fun k => ¬ x = nI (k + 1)) (lt_s (p := fun k => ¬ x = nI (k + 1)) (lt_s (p := fun k => ¬ x = nI (k + 1)) (lt_0) w_47_1) w_47_2) w_47_3)
      refine lv_tableOut (tgt := 84) hx hb dX3_prizeOfPlace_47 (by omega) (by decide) ?_
      refine lv_iconst (v := 0) hx hb dX3_prizeOfPlace_84 (by decide) ?_
      exact q_iret hx hb hr hlk dX3_prizeOfPlace_85 (by simp only [prpS, secS, thiS, if_pos c_10, if_neg c_30, if_neg w_47_1, if_neg w_47_2, if_neg w_47_3])
  · skip
    refine lv_iload_n hx hb dX3_prizeOfPlace_13 rfl (lv_at hl 0 rfl) ?_
    refine lv_bipush (v := 30) hx hb dX3_prizeOfPlace_14 (by decide) ?_
    refine lv_imul hx hb dX3_prizeOfPlace_16 ?_
    refine lv_bipush (v := 100) hx hb dX3_prizeOfPlace_17 (by decide) ?_
    refine lv_idiv hx hb dX3_prizeOfPlace_19 (by decide) ?_
    refine lv_goto (tgt := 24) hx hb dX3_prizeOfPlace_20 (by decide) ?_
    refine lv_istore_n (lv' := [(3, .int (((potS S) * 30) / 100)), (2, .int (potS S)), (0, .ref (q 0)), (1, .int x)]) hx hb dX3_prizeOfPlace_24 rfl hl (by decide) rfl (fun ls hl => ?_)
    refine lv_aload_n hx hb dX3_prizeOfPlace_25 rfl (lv_at hl 2 rfl) ?_
    refine va_get (D := g.1) (ci := 2) (v := .int (nI (s_n S))) (C := RX3) (T := TX3) (N := 12) hx hb hts hi_X3 hown hK hP 0 rfl rfl 10 (by decide) fl_66 (fun _ h9 => h9) rfl dX3_prizeOfPlace_26 ?_
    refine lv_iconst (v := 3) hx hb dX3_prizeOfPlace_29 (by decide) ?_
    refine lv_icmp_lt (tgt := 43) hx hb dX3_prizeOfPlace_30 (by decide) (fun c_30 => ?_) (fun c_30 => ?_)
    · skip
      refine lv_iconst (v := 0) hx hb dX3_prizeOfPlace_43 (by decide) ?_
      refine lv_istore (lv' := [(4, .int 0), (3, .int (((potS S) * 30) / 100)), (2, .int (potS S)), (0, .ref (q 0)), (1, .int x)]) hx hb dX3_prizeOfPlace_44 hl (by decide) rfl (fun ls hl => ?_)
      refine lv_iload_n hx hb dX3_prizeOfPlace_46 rfl (lv_at hl 4 rfl) ?_
      by_cases w_47_1 : x = 1
      · skip
        have tx_47 : (x : Int32).toInt = 1 := by rw [w_47_1]; decide
        refine lv_tableIn (tgt := 72) (off := 25) hx hb dX3_prizeOfPlace_47 (by rw [tx_47]; decide) (by rw [tx_47]; decide) (by rw [tx_47]; rfl) (by decide) ?_
        refine lv_iload_n hx hb dX3_prizeOfPlace_72 rfl (lv_at hl 2 rfl) ?_
        refine lv_iload_n hx hb dX3_prizeOfPlace_73 rfl (lv_at hl 1 rfl) ?_
        refine lv_isub hx hb dX3_prizeOfPlace_74 ?_
        refine lv_iload hx hb dX3_prizeOfPlace_75 (lv_at hl 0 rfl) ?_
        refine lv_isub hx hb dX3_prizeOfPlace_77 ?_
        exact q_iret hx hb hr hlk dX3_prizeOfPlace_78 (by simp only [prpS, secS, thiS, if_neg c_10, if_pos c_30, if_pos w_47_1])
      by_cases w_47_2 : x = 2
      · skip
        have tx_47 : (x : Int32).toInt = 2 := by rw [w_47_2]; decide
        refine lv_tableIn (tgt := 79) (off := 32) hx hb dX3_prizeOfPlace_47 (by rw [tx_47]; decide) (by rw [tx_47]; decide) (by rw [tx_47]; rfl) (by decide) ?_
        refine lv_iload_n hx hb dX3_prizeOfPlace_79 rfl (lv_at hl 1 rfl) ?_
        exact q_iret hx hb hr hlk dX3_prizeOfPlace_80 (by simp only [prpS, secS, thiS, if_neg c_10, if_pos c_30, if_neg w_47_1, if_pos w_47_2])
      by_cases w_47_3 : x = 3
      · skip
        have tx_47 : (x : Int32).toInt = 3 := by rw [w_47_3]; decide
        refine lv_tableIn (tgt := 81) (off := 34) hx hb dX3_prizeOfPlace_47 (by rw [tx_47]; decide) (by rw [tx_47]; decide) (by rw [tx_47]; rfl) (by decide) ?_
        refine lv_iload hx hb dX3_prizeOfPlace_81 (lv_at hl 0 rfl) ?_
        exact q_iret hx hb hr hlk dX3_prizeOfPlace_83 (by simp only [prpS, secS, thiS, if_neg c_10, if_pos c_30, if_neg w_47_1, if_neg w_47_2, if_pos w_47_3])
      have tw_47 := q_tab (n := 3) (lo := 1) (x := x) (by decide) (lt_s (p := fun k => ¬ x = nI (k + 1)) (lt_s (p := fun k => ¬ x = nI (k + 1)) (lt_s (p := fun k => ¬ x = nI (k + 1)) (lt_0) w_47_1) w_47_2) w_47_3)
      refine lv_tableOut (tgt := 84) hx hb dX3_prizeOfPlace_47 (by omega) (by decide) ?_
      refine lv_iconst (v := 0) hx hb dX3_prizeOfPlace_84 (by decide) ?_
      exact q_iret hx hb hr hlk dX3_prizeOfPlace_85 (by simp only [prpS, secS, thiS, if_neg c_10, if_pos c_30, if_neg w_47_1, if_neg w_47_2, if_neg w_47_3])
    · skip
      refine lv_iload_n hx hb dX3_prizeOfPlace_33 rfl (lv_at hl 1 rfl) ?_
      refine lv_bipush (v := 10) hx hb dX3_prizeOfPlace_34 (by decide) ?_
      refine lv_imul hx hb dX3_prizeOfPlace_36 ?_
      refine lv_bipush (v := 100) hx hb dX3_prizeOfPlace_37 (by decide) ?_
      refine lv_idiv hx hb dX3_prizeOfPlace_39 (by decide) ?_
      refine lv_goto (tgt := 44) hx hb dX3_prizeOfPlace_40 (by decide) ?_
      refine lv_istore (lv' := [(4, .int (((potS S) * 10) / 100)), (3, .int (((potS S) * 30) / 100)), (2, .int (potS S)), (0, .ref (q 0)), (1, .int x)]) hx hb dX3_prizeOfPlace_44 hl (by decide) rfl (fun ls hl => ?_)
      refine lv_iload_n hx hb dX3_prizeOfPlace_46 rfl (lv_at hl 4 rfl) ?_
      by_cases w_47_1 : x = 1
      · skip
        have tx_47 : (x : Int32).toInt = 1 := by rw [w_47_1]; decide
        refine lv_tableIn (tgt := 72) (off := 25) hx hb dX3_prizeOfPlace_47 (by rw [tx_47]; decide) (by rw [tx_47]; decide) (by rw [tx_47]; rfl) (by decide) ?_
        refine lv_iload_n hx hb dX3_prizeOfPlace_72 rfl (lv_at hl 2 rfl) ?_
        refine lv_iload_n hx hb dX3_prizeOfPlace_73 rfl (lv_at hl 1 rfl) ?_
        refine lv_isub hx hb dX3_prizeOfPlace_74 ?_
        refine lv_iload hx hb dX3_prizeOfPlace_75 (lv_at hl 0 rfl) ?_
        refine lv_isub hx hb dX3_prizeOfPlace_77 ?_
        exact q_iret hx hb hr hlk dX3_prizeOfPlace_78 (by simp only [prpS, secS, thiS, if_neg c_10, if_neg c_30, if_pos w_47_1])
      by_cases w_47_2 : x = 2
      · skip
        have tx_47 : (x : Int32).toInt = 2 := by rw [w_47_2]; decide
        refine lv_tableIn (tgt := 79) (off := 32) hx hb dX3_prizeOfPlace_47 (by rw [tx_47]; decide) (by rw [tx_47]; decide) (by rw [tx_47]; rfl) (by decide) ?_
        refine lv_iload_n hx hb dX3_prizeOfPlace_79 rfl (lv_at hl 1 rfl) ?_
        exact q_iret hx hb hr hlk dX3_prizeOfPlace_80 (by simp only [prpS, secS, thiS, if_neg c_10, if_neg c_30, if_neg w_47_1, if_pos w_47_2])
      by_cases w_47_3 : x = 3
      · skip
        have tx_47 : (x : Int32).toInt = 3 := by rw [w_47_3]; decide
        refine lv_tableIn (tgt := 81) (off := 34) hx hb dX3_prizeOfPlace_47 (by rw [tx_47]; decide) (by rw [tx_47]; decide) (by rw [tx_47]; rfl) (by decide) ?_
        refine lv_iload hx hb dX3_prizeOfPlace_81 (lv_at hl 0 rfl) ?_
        exact q_iret hx hb hr hlk dX3_prizeOfPlace_83 (by simp only [prpS, secS, thiS, if_neg c_10, if_neg c_30, if_neg w_47_1, if_neg w_47_2, if_pos w_47_3])
      have tw_47 := q_tab (n := 3) (lo := 1) (x := x) (by decide) (lt_s (p := fun k => ¬ x = nI (k + 1)) (lt_s (p := fun k => ¬ x = nI (k + 1)) (lt_s (p := fun k => ¬ x = nI (k + 1)) (lt_0) w_47_1) w_47_2) w_47_3)
      refine lv_tableOut (tgt := 84) hx hb dX3_prizeOfPlace_47 (by omega) (by decide) ?_
      refine lv_iconst (v := 0) hx hb dX3_prizeOfPlace_84 (by decide) ?_
      exact q_iret hx hb hr hlk dX3_prizeOfPlace_85 (by simp only [prpS, secS, thiS, if_neg c_10, if_neg c_30, if_neg w_47_1, if_neg w_47_2, if_neg w_47_3])
