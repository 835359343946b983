/-! the reference's history -/
def shl (f : Nat → Int32) (i : Nat) : Nat → Int32 := fun k => if k < i then f (1336 + k) else f k
def ovl (B f : Nat → Int32) (o i : Nat) : Nat → Int32 := fun k => if o ≤ k ∧ k < o + i then f (k - o) else B k
theorem shl_0 (f : Nat → Int32) : shl f 0 = f := by funext k; simp [shl]
theorem shl_s (f : Nat → Int32) (i : Nat) : upd (shl f i) i (shl f i (1336 + i)) = shl f (i + 1) := by
  funext k
  unfold upd shl
  by_cases e : k = i
  · subst e
    rw [if_pos rfl, if_neg (by omega), if_pos (by omega)]
  · rw [if_neg e]
    by_cases h : k < i
    · rw [if_pos h, if_pos (by omega)]
    · rw [if_neg h, if_neg (by omega)]
theorem ovl_0 (B f : Nat → Int32) (o : Nat) : ovl B f o 0 = B := by
  funext k; unfold ovl; rw [if_neg (by omega)]
theorem ovl_s (B f : Nat → Int32) (o i : Nat) : upd (ovl B f o i) (o + i) (f i) = ovl B f o (i + 1) := by
  funext k
  unfold upd ovl
  by_cases e : k = o + i
  · subst e
    rw [if_pos rfl, if_pos (by omega), Nat.add_sub_cancel_left]
  · rw [if_neg e]
    by_cases h : o ≤ k ∧ k < o + i
    · rw [if_pos h, if_pos (by omega)]
    · rw [if_neg h, if_neg (by omega)]
def m_rec (M : q_MV) : q_MV := if m_st M = 6 then n_st (n_bef M (ovl (shl (m_bef M) 6680) (m_s M) (1336 * 5) 1336)) (5 + 1) else n_st (n_bef M (ovl (m_bef M) (m_s M) (1336 * m_st M) 1336)) (m_st M + 1)

set_option maxHeartbeats 2000000 in
set_option maxRecDepth 100000 in
theorem c_X5_record (l : Launch) (g : q_G) (d : Nat → Nat) (M : q_MV) (hJ : q_mInj d) (h1_ : m_st M ≤ 6) : Met l yX5_record wsX5_record { frames := 0, cells := 0, slots := 0, locals := 0 } (va_Pc [.ref (d 0)] (q_B g (q_mdW g d M))) (q_QM g (q_mAd d) (q_mdW g d (m_rec M)) (none)) 0 0 (q_mAd d) := by
  refine q_mm (cc := cX5_record) (maxL := 2) (ret := none) (by decide) rfl (Nat.le_of_ble_eq_true rfl) ?_
  intro p e s m args below meth c ls hx hb hml hown hts hr hlk hnm hB hag hl
  obtain ⟨hP, hK, hN⟩ := hB
  have hS : va_S (q_mAd d) s.heap s.heap [] := va_S.rf
  have hP : va_P g.1 vwCl (q_mdW g d M) s.heap := hP
  have hD : va_D (q_mAd d) (q_mdW g d M) := q_mD hJ (fun _ h => h)
  have fl_7 := hts (.fieldLink RX5 7 "PubQuizzesModel" "s" "[I") (by decide +kernel)
  have fl_13 := hts (.fieldLink RX5 13 "PubQuizzesModel" "before" "[I") (by decide +kernel)
  have fl_35 := hts (.fieldLink RX5 35 "PubQuizzesModel" "states" "I") (by decide +kernel)
  have hi_X5 : ∀ w ∈ u_ws RX5 TX5 7, w ∈ wsX5_record := by decide +kernel
  have hl : lv_has ls 2 [(0, .ref (d 0))] := hl
  refine lv_aload_n hx hb dX5_record_0 rfl (lv_at hl 0 rfl) ?_
  refine va_get (D := g.1) (ci := 4) (v := .int (nI (m_st M))) (C := RX5) (T := TX5) (N := 7) hx hb hts hi_X5 hown hK hP 0 rfl rfl 6 (by decide) fl_35 (fun _ h9 => h9) rfl dX5_record_1 ?_
  refine lv_bipush (v := 6) hx hb dX5_record_4 (by decide) ?_
  refine lv_icmp_ne (tgt := 50) hx hb dX5_record_6 (by decide) (fun c_6 => ?_) (fun c_6 => ?_)
  · skip
    have n6 : ¬ m_st M = 6 := fun q => c_6 (by rw [q]; rfl)
    refine lv_iconst (v := 0) hx hb dX5_record_50 (by decide) ?_
    refine lv_istore_n (lv' := [(1, .int 0), (0, .ref (d 0))]) hx hb dX5_record_51 rfl hl (by decide) rfl (fun ls hl => ?_)
    have L_52 : ∀ (fu i52 : Nat) (H : Heap) (locs : List Loc), va_P g.1 vwCl (q_mdW g d (n_bef M (ovl (m_bef M) (m_s M) (1336 * (m_st M)) i52))) H → va_S (q_mAd d) s.heap H locs → i52 ≤ 1336 → 1336 < i52 + fu → ∀ ls : Array Slot, lv_has ls 2 [(1, .int (nI i52)), (0, .ref (d 0))] → W p l e { frames := 0, cells := 0, slots := 0, locals := 0 } s m args below meth c H locs 0 0 (MQ below (q_QM g (q_mAd d) (q_mdW g d (m_rec M)) (none)) args s 0 0 (q_mAd d)) (F0 m 52 ls []) := by
      intro fu
      induction fu with
      | zero => intro i52 H locs hP hS hi_i52 hn_i52; exact absurd hn_i52 (by omega)
      | succ fu ih_i52 =>
        intro i52 H locs hP hS hi_i52 hn_i52 ls hl
        have hD : va_D (q_mAd d) (q_mdW g d (n_bef M (ovl (m_bef M) (m_s M) (1336 * (m_st M)) i52))) := q_mD hJ (fun _ h => h)
        refine lv_iload_n hx hb dX5_record_52 rfl (lv_at hl 0 rfl) ?_
        refine lv_sipush (v := 1336) hx hb dX5_record_53 (by decide) ?_
        refine lv_icmp_ge (tgt := 86) hx hb dX5_record_56 (by decide) (fun c_56 => ?_) (fun c_56 => ?_)
        · skip
          have e_56 : i52 = 1336 := q_ge_T (by omega) hi_i52 c_56
          subst e_56
          refine lv_aload_n hx hb dX5_record_86 rfl (lv_at hl 1 rfl) ?_
          refine lv_dup hx hb dX5_record_87 rfl ?_
          refine va_get (D := g.1) (ci := 4) (v := .int (nI (m_st M))) (C := RX5) (T := TX5) (N := 7) hx hb hts hi_X5 hown hK hP 0 rfl rfl 6 (by decide) fl_35 (fun _ h9 => h9) rfl dX5_record_88 ?_
          refine lv_iconst (v := 1) hx hb dX5_record_91 (by decide) ?_
          refine lv_iadd hx hb dX5_record_92 ?_
          refine q_reI (show (((nI (m_st M)) + 1) : Int32) = nI (m_st M + 1) from nI_add _ _) ?_
          refine va_put (D := g.1) (ci := 4) (v := .int (nI (m_st M + 1))) (ty := .int) (C := RX5) (T := TX5) (N := 7) hx hb hts hi_X5 tyX5 tyX5_ok nmX5 hown hK hP hD hS 0 rfl rfl 6 (by decide) fl_35 (fun _ h9 => h9) rfl (by decide +kernel) rfl rfl (Nat.le_of_ble_eq_true rfl) dX5_record_93 (fun H locs hP _ hS => ?_)
          have hP : va_P g.1 vwCl (q_mdW g d (n_st (n_bef M (ovl (m_bef M) (m_s M) (1336 * (m_st M)) 1336)) (m_st M + 1))) H := hP
          have hD : va_D (q_mAd d) (q_mdW g d (n_st (n_bef M (ovl (m_bef M) (m_s M) (1336 * (m_st M)) 1336)) (m_st M + 1))) := q_mD hJ (fun _ h => h)
          exact q_mvret hx hb hr hlk dX5_record_96 hP hS (by first | (rw [m_rec, if_neg n6]; done) | (rw [show m_rec M = _ from if_pos n6]; rfl))
        · skip
          have lt_i52 : i52 < 1336 := q_ge_F (by omega) hi_i52 c_56
          refine lv_aload_n hx hb dX5_record_59 rfl (lv_at hl 1 rfl) ?_
          refine va_get (D := g.1) (ci := 4) (v := .ref (d 2)) (C := RX5) (T := TX5) (N := 7) hx hb hts hi_X5 hown hK hP 0 rfl rfl 1 (by decide) fl_13 (fun _ h9 => h9) rfl dX5_record_60 ?_
          refine lv_sipush (v := 1336) hx hb dX5_record_63 (by decide) ?_
          refine lv_aload_n hx hb dX5_record_66 rfl (lv_at hl 1 rfl) ?_
          refine va_get (D := g.1) (ci := 4) (v := .int (nI (m_st M))) (C := RX5) (T := TX5) (N := 7) hx hb hts hi_X5 hown hK hP 0 rfl rfl 6 (by decide) fl_35 (fun _ h9 => h9) rfl dX5_record_67 ?_
          refine lv_imul hx hb dX5_record_70 ?_
          refine q_reI (show ((1336 * (nI (m_st M))) : Int32) = nI (1336 * (m_st M)) from pk_mul _ _) ?_
          refine lv_iload_n hx hb dX5_record_71 rfl (lv_at hl 0 rfl) ?_
          refine lv_iadd hx hb dX5_record_72 ?_
          refine q_reI (show (((nI (1336 * (m_st M))) + (nI i52)) : Int32) = nI (1336 * (m_st M) + i52) from nI_add _ _) ?_
          refine lv_aload_n hx hb dX5_record_73 rfl (lv_at hl 1 rfl) ?_
          refine va_get (D := g.1) (ci := 4) (v := .ref (d 1)) (C := RX5) (T := TX5) (N := 7) hx hb hts hi_X5 hown hK hP 0 rfl rfl 0 (by decide) fl_7 (fun _ h9 => h9) rfl dX5_record_74 ?_
          refine lv_iload_n hx hb dX5_record_77 rfl (lv_at hl 0 rfl) ?_
          refine q_iald (j := i52) hx hb hK hP 1 0 rfl rfl (by omega) (by decide) dX5_record_78 ?_
          refine q_iast (j := (1336 * (m_st M) + i52)) hx hb hK hP hD hS 2 0 rfl rfl (by omega) (by decide) dX5_record_79 (fun H locs hP hS => ?_)
          have hP : va_P g.1 vwCl (q_mdW g d (n_bef (n_bef M (ovl (m_bef M) (m_s M) (1336 * (m_st M)) i52)) (upd (ovl (m_bef M) (m_s M) (1336 * (m_st M)) i52) (1336 * (m_st M) + i52) (m_s M i52)))) H := hP
          have hD : va_D (q_mAd d) (q_mdW g d (n_bef (n_bef M (ovl (m_bef M) (m_s M) (1336 * (m_st M)) i52)) (upd (ovl (m_bef M) (m_s M) (1336 * (m_st M)) i52) (1336 * (m_st M) + i52) (m_s M i52)))) := q_mD hJ (fun _ h => h)
          refine lv_iinc (v := nI (i52 + 1)) (lv' := [(1, .int (nI (i52 + 1))), (0, .ref (d 0))]) hx hb dX5_record_80 hl (k := 0) rfl (nI_1 _) (by decide) rfl (fun ls hl => ?_)
          refine lv_goto (tgt := 52) hx hb dX5_record_83 (by decide) ?_
          exact ih_i52 (i52 + 1) _ _ (by rw [← ovl_s]; exact hP) hS lt_i52 (by omega) ls (lv_sub hl [0, 1] rfl)
    exact L_52 (1336 + 1) 0 _ _ (by rw [ovl_0]; exact hP) hS (Nat.zero_le _) (by omega) ls (lv_sub hl [0, 1] rfl)
  · skip
    have n6 : m_st M = 6 := (nI_eq (a := m_st M) (b := 6) (by omega) (by decide)).mp c_6
    refine lv_iconst (v := 0) hx hb dX5_record_9 (by decide) ?_
    refine lv_istore_n (lv' := [(1, .int 0), (0, .ref (d 0))]) hx hb dX5_record_10 rfl hl (by decide) rfl (fun ls hl => ?_)
    have L_11 : ∀ (fu i11 : Nat) (H : Heap) (locs : List Loc), va_P g.1 vwCl (q_mdW g d (n_bef M (shl (m_bef M) i11))) H → va_S (q_mAd d) s.heap H locs → i11 ≤ 6680 → 6680 < i11 + fu → ∀ ls : Array Slot, lv_has ls 2 [(1, .int (nI i11)), (0, .ref (d 0))] → W p l e { frames := 0, cells := 0, slots := 0, locals := 0 } s m args below meth c H locs 0 0 (MQ below (q_QM g (q_mAd d) (q_mdW g d (m_rec M)) (none)) args s 0 0 (q_mAd d)) (F0 m 11 ls []) := by
      intro fu
      induction fu with
      | zero => intro i11 H locs hP hS hi_i11 hn_i11; exact absurd hn_i11 (by omega)
      | succ fu ih_i11 =>
        intro i11 H locs hP hS hi_i11 hn_i11 ls hl
        have hD : va_D (q_mAd d) (q_mdW g d (n_bef M (shl (m_bef M) i11))) := q_mD hJ (fun _ h => h)
        refine lv_iload_n hx hb dX5_record_11 rfl (lv_at hl 0 rfl) ?_
        refine lv_sipush (v := 6680) hx hb dX5_record_12 (by decide) ?_
        refine lv_icmp_ge (tgt := 40) hx hb dX5_record_15 (by decide) (fun c_15 => ?_) (fun c_15 => ?_)
        · skip
          have e_15 : i11 = 6680 := q_ge_T (by omega) hi_i11 c_15
          subst e_15
          refine lv_aload_n hx hb dX5_record_40 rfl (lv_at hl 1 rfl) ?_
          refine lv_dup hx hb dX5_record_41 rfl ?_
          refine va_get (D := g.1) (ci := 4) (v := .int (nI (m_st M))) (C := RX5) (T := TX5) (N := 7) hx hb hts hi_X5 hown hK hP 0 rfl rfl 6 (by decide) fl_35 (fun _ h9 => h9) rfl dX5_record_42 ?_
          refine lv_iconst (v := 1) hx hb dX5_record_45 (by decide) ?_
          refine lv_isub hx hb dX5_record_46 ?_
          refine q_reI (show (((nI (m_st M)) - 1) : Int32) = nI 5 from by rw [n6]; decide) ?_
          refine va_put (D := g.1) (ci := 4) (v := .int (nI 5)) (ty := .int) (C := RX5) (T := TX5) (N := 7) hx hb hts hi_X5 tyX5 tyX5_ok nmX5 hown hK hP hD hS 0 rfl rfl 6 (by decide) fl_35 (fun _ h9 => h9) rfl (by decide +kernel) rfl rfl (Nat.le_of_ble_eq_true rfl) dX5_record_47 (fun H locs hP _ hS => ?_)
          have hP : va_P g.1 vwCl (q_mdW g d (n_st (n_bef M (shl (m_bef M) 6680)) 5)) H := hP
          have hD : va_D (q_mAd d) (q_mdW g d (n_st (n_bef M (shl (m_bef M) 6680)) 5)) := q_mD hJ (fun _ h => h)
          refine lv_iconst (v := 0) hx hb dX5_record_50 (by decide) ?_
          refine lv_istore_n (lv' := [(1, .int 0), (0, .ref (d 0))]) hx hb dX5_record_51 rfl hl (by decide) rfl (fun ls hl => ?_)
          have L_52 : ∀ (fu i52 : Nat) (H : Heap) (locs : List Loc), va_P g.1 vwCl (q_mdW g d (n_bef (n_st (n_bef M (shl (m_bef M) 6680)) 5) (ovl (m_bef (n_st (n_bef M (shl (m_bef M) 6680)) 5)) (m_s M) (1336 * (5)) i52))) H → va_S (q_mAd d) s.heap H locs → i52 ≤ 1336 → 1336 < i52 + fu → ∀ ls : Array Slot, lv_has ls 2 [(1, .int (nI i52)), (0, .ref (d 0))] → W p l e { frames := 0, cells := 0, slots := 0, locals := 0 } s m args below meth c H locs 0 0 (MQ below (q_QM g (q_mAd d) (q_mdW g d (m_rec M)) (none)) args s 0 0 (q_mAd d)) (F0 m 52 ls []) := by
            intro fu
            induction fu with
            | zero => intro i52 H locs hP hS hi_i52 hn_i52; exact absurd hn_i52 (by omega)
            | succ fu ih_i52 =>
              intro i52 H locs hP hS hi_i52 hn_i52 ls hl
              have hD : va_D (q_mAd d) (q_mdW g d (n_bef (n_st (n_bef M (shl (m_bef M) 6680)) 5) (ovl (m_bef (n_st (n_bef M (shl (m_bef M) 6680)) 5)) (m_s M) (1336 * (5)) i52))) := q_mD hJ (fun _ h => h)
              refine lv_iload_n hx hb dX5_record_52 rfl (lv_at hl 0 rfl) ?_
              refine lv_sipush (v := 1336) hx hb dX5_record_53 (by decide) ?_
              refine lv_icmp_ge (tgt := 86) hx hb dX5_record_56 (by decide) (fun c_56 => ?_) (fun c_56 => ?_)
              · skip
                have e_56 : i52 = 1336 := q_ge_T (by omega) hi_i52 c_56
                subst e_56
                refine lv_aload_n hx hb dX5_record_86 rfl (lv_at hl 1 rfl) ?_
                refine lv_dup hx hb dX5_record_87 rfl ?_
                refine va_get (D := g.1) (ci := 4) (v := .int (nI 5)) (C := RX5) (T := TX5) (N := 7) hx hb hts hi_X5 hown hK hP 0 rfl rfl 6 (by decide) fl_35 (fun _ h9 => h9) rfl dX5_record_88 ?_
                refine lv_iconst (v := 1) hx hb dX5_record_91 (by decide) ?_
                refine lv_iadd hx hb dX5_record_92 ?_
                refine q_reI (show (((nI 5) + 1) : Int32) = nI (5 + 1) from nI_add _ _) ?_
                refine va_put (D := g.1) (ci := 4) (v := .int (nI (5 + 1))) (ty := .int) (C := RX5) (T := TX5) (N := 7) hx hb hts hi_X5 tyX5 tyX5_ok nmX5 hown hK hP hD hS 0 rfl rfl 6 (by decide) fl_35 (fun _ h9 => h9) rfl (by decide +kernel) rfl rfl (Nat.le_of_ble_eq_true rfl) dX5_record_93 (fun H locs hP _ hS => ?_)
                have hP : va_P g.1 vwCl (q_mdW g d (n_st (n_bef (n_st (n_bef M (shl (m_bef M) 6680)) 5) (ovl (m_bef (n_st (n_bef M (shl (m_bef M) 6680)) 5)) (m_s M) (1336 * (5)) 1336)) (5 + 1))) H := hP
                have hD : va_D (q_mAd d) (q_mdW g d (n_st (n_bef (n_st (n_bef M (shl (m_bef M) 6680)) 5) (ovl (m_bef (n_st (n_bef M (shl (m_bef M) 6680)) 5)) (m_s M) (1336 * (5)) 1336)) (5 + 1))) := q_mD hJ (fun _ h => h)
                exact q_mvret hx hb hr hlk dX5_record_96 hP hS (by first | (rw [m_rec, if_neg n6]; done) | (rw [show m_rec M = _ from if_pos n6]; rfl))
              · skip
                have lt_i52 : i52 < 1336 := q_ge_F (by omega) hi_i52 c_56
                refine lv_aload_n hx hb dX5_record_59 rfl (lv_at hl 1 rfl) ?_
                refine va_get (D := g.1) (ci := 4) (v := .ref (d 2)) (C := RX5) (T := TX5) (N := 7) hx hb hts hi_X5 hown hK hP 0 rfl rfl 1 (by decide) fl_13 (fun _ h9 => h9) rfl dX5_record_60 ?_
                refine lv_sipush (v := 1336) hx hb dX5_record_63 (by decide) ?_
                refine lv_aload_n hx hb dX5_record_66 rfl (lv_at hl 1 rfl) ?_
                refine va_get (D := g.1) (ci := 4) (v := .int (nI 5)) (C := RX5) (T := TX5) (N := 7) hx hb hts hi_X5 hown hK hP 0 rfl rfl 6 (by decide) fl_35 (fun _ h9 => h9) rfl dX5_record_67 ?_
                refine lv_imul hx hb dX5_record_70 ?_
                refine q_reI (show ((1336 * (nI 5)) : Int32) = nI (1336 * 5) from pk_mul _ _) ?_
                refine lv_iload_n hx hb dX5_record_71 rfl (lv_at hl 0 rfl) ?_
                refine lv_iadd hx hb dX5_record_72 ?_
                refine q_reI (show (((nI (1336 * 5)) + (nI i52)) : Int32) = nI (1336 * 5 + i52) from nI_add _ _) ?_
                refine lv_aload_n hx hb dX5_record_73 rfl (lv_at hl 1 rfl) ?_
                refine va_get (D := g.1) (ci := 4) (v := .ref (d 1)) (C := RX5) (T := TX5) (N := 7) hx hb hts hi_X5 hown hK hP 0 rfl rfl 0 (by decide) fl_7 (fun _ h9 => h9) rfl dX5_record_74 ?_
                refine lv_iload_n hx hb dX5_record_77 rfl (lv_at hl 0 rfl) ?_
                refine q_iald (j := i52) hx hb hK hP 1 0 rfl rfl (by omega) (by decide) dX5_record_78 ?_
                refine q_iast (j := (1336 * 5 + i52)) hx hb hK hP hD hS 2 0 rfl rfl (by omega) (by decide) dX5_record_79 (fun H locs hP hS => ?_)
                have hP : va_P g.1 vwCl (q_mdW g d (n_bef (n_bef (n_st (n_bef M (shl (m_bef M) 6680)) 5) (ovl (m_bef (n_st (n_bef M (shl (m_bef M) 6680)) 5)) (m_s M) (1336 * (5)) i52)) (upd (ovl (m_bef (n_st (n_bef M (shl (m_bef M) 6680)) 5)) (m_s M) (1336 * (5)) i52) (1336 * 5 + i52) (m_s M i52)))) H := hP
                have hD : va_D (q_mAd d) (q_mdW g d (n_bef (n_bef (n_st (n_bef M (shl (m_bef M) 6680)) 5) (ovl (m_bef (n_st (n_bef M (shl (m_bef M) 6680)) 5)) (m_s M) (1336 * (5)) i52)) (upd (ovl (m_bef (n_st (n_bef M (shl (m_bef M) 6680)) 5)) (m_s M) (1336 * (5)) i52) (1336 * 5 + i52) (m_s M i52)))) := q_mD hJ (fun _ h => h)
                refine lv_iinc (v := nI (i52 + 1)) (lv' := [(1, .int (nI (i52 + 1))), (0, .ref (d 0))]) hx hb dX5_record_80 hl (k := 0) rfl (nI_1 _) (by decide) rfl (fun ls hl => ?_)
                refine lv_goto (tgt := 52) hx hb dX5_record_83 (by decide) ?_
                exact ih_i52 (i52 + 1) _ _ (by rw [← ovl_s]; exact hP) hS lt_i52 (by omega) ls (lv_sub hl [0, 1] rfl)
          exact L_52 (1336 + 1) 0 _ _ (by rw [ovl_0]; exact hP) hS (Nat.zero_le _) (by omega) ls (lv_sub hl [0, 1] rfl)
        · skip
          have lt_i11 : i11 < 6680 := q_ge_F (by omega) hi_i11 c_15
          refine lv_aload_n hx hb dX5_record_18 rfl (lv_at hl 1 rfl) ?_
          refine va_get (D := g.1) (ci := 4) (v := .ref (d 2)) (C := RX5) (T := TX5) (N := 7) hx hb hts hi_X5 hown hK hP 0 rfl rfl 1 (by decide) fl_13 (fun _ h9 => h9) rfl dX5_record_19 ?_
          refine lv_iload_n hx hb dX5_record_22 rfl (lv_at hl 0 rfl) ?_
          refine lv_aload_n hx hb dX5_record_23 rfl (lv_at hl 1 rfl) ?_
          refine va_get (D := g.1) (ci := 4) (v := .ref (d 2)) (C := RX5) (T := TX5) (N := 7) hx hb hts hi_X5 hown hK hP 0 rfl rfl 1 (by decide) fl_13 (fun _ h9 => h9) rfl dX5_record_24 ?_
          refine lv_sipush (v := 1336) hx hb dX5_record_27 (by decide) ?_
          refine lv_iload_n hx hb dX5_record_30 rfl (lv_at hl 0 rfl) ?_
          refine lv_iadd hx hb dX5_record_31 ?_
          refine q_reI (show ((1336 + (nI i11)) : Int32) = nI (1336 + i11) from nI_add _ _) ?_
          refine q_iald (j := (1336 + i11)) hx hb hK hP 2 0 rfl rfl (by omega) (by decide) dX5_record_32 ?_
          refine q_iast (j := i11) hx hb hK hP hD hS 2 0 rfl rfl (by omega) (by decide) dX5_record_33 (fun H locs hP hS => ?_)
          have hP : va_P g.1 vwCl (q_mdW g d (n_bef (n_bef M (shl (m_bef M) i11)) (upd (shl (m_bef M) i11) i11 (shl (m_bef M) i11 (1336 + i11))))) H := hP
          have hD : va_D (q_mAd d) (q_mdW g d (n_bef (n_bef M (shl (m_bef M) i11)) (upd (shl (m_bef M) i11) i11 (shl (m_bef M) i11 (1336 + i11))))) := q_mD hJ (fun _ h => h)
          refine lv_iinc (v := nI (i11 + 1)) (lv' := [(1, .int (nI (i11 + 1))), (0, .ref (d 0))]) hx hb dX5_record_34 hl (k := 0) rfl (nI_1 _) (by decide) rfl (fun ls hl => ?_)
          refine lv_goto (tgt := 11) hx hb dX5_record_37 (by decide) ?_
          exact ih_i11 (i11 + 1) _ _ (by rw [← shl_s]; exact hP) hS lt_i11 (by omega) ls (lv_sub hl [0, 1] rfl)
    exact L_11 (6680 + 1) 0 _ _ (by rw [shl_0]; exact hP) hS (Nat.zero_le _) (by omega) ls (lv_sub hl [0, 1] rfl)

set_option maxHeartbeats 2000000 in
set_option maxRecDepth 100000 in
theorem c_X5_wipe (l : Launch) (g : q_G) (d : Nat → Nat) (M : q_MV) (hJ : q_mInj d) : Met l yX5_wipe wsX5_wipe { frames := 0, cells := 0, slots := 0, locals := 0 } (va_Pc [.ref (d 0)] (q_B g (q_mdW g d M))) (q_QM g (q_mAd d) (q_mdW g d (n_len M 0)) (some (.int (nI (m_len M))))) 0 0 (q_mAd d) := by
  refine q_mm (cc := cX5_wipe) (maxL := 2) (ret := (some .int)) (by decide) rfl (Nat.le_of_ble_eq_true rfl) ?_
  intro p e s m args below meth c ls hx hb hml hown hts hr hlk hnm hB hag hl
  obtain ⟨hP, hK, hN⟩ := hB
  have hS : va_S (q_mAd d) s.heap s.heap [] := va_S.rf
  have hP : va_P g.1 vwCl (q_mdW g d M) s.heap := hP
  have hD : va_D (q_mAd d) (q_mdW g d M) := q_mD hJ (fun _ h => h)
  have fl_92 := hts (.fieldLink RX5 92 "PubQuizzesModel" "length" "I") (by decide +kernel)
  have hi_X5 : ∀ w ∈ u_ws RX5 TX5 7, w ∈ wsX5_wipe := by decide +kernel
  have hl : lv_has ls 2 [(0, .ref (d 0))] := hl
  refine lv_aload_n hx hb dX5_wipe_0 rfl (lv_at hl 0 rfl) ?_
  refine va_get (D := g.1) (ci := 4) (v := .int (nI (m_len M))) (C := RX5) (T := TX5) (N := 7) hx hb hts hi_X5 hown hK hP 0 rfl rfl 5 (by decide) fl_92 (fun _ h9 => h9) rfl dX5_wipe_1 ?_
  refine lv_istore_n (lv' := [(1, .int (nI (m_len M))), (0, .ref (d 0))]) hx hb dX5_wipe_4 rfl hl (by decide) rfl (fun ls hl => ?_)
  refine lv_aload_n hx hb dX5_wipe_5 rfl (lv_at hl 1 rfl) ?_
  refine lv_iconst (v := 0) hx hb dX5_wipe_6 (by decide) ?_
  refine va_put (D := g.1) (ci := 4) (v := .int 0) (ty := .int) (C := RX5) (T := TX5) (N := 7) hx hb hts hi_X5 tyX5 tyX5_ok nmX5 hown hK hP hD hS 0 rfl rfl 5 (by decide) fl_92 (fun _ h9 => h9) rfl (by decide +kernel) rfl rfl (Nat.le_of_ble_eq_true rfl) dX5_wipe_7 (fun H locs hP _ hS => ?_)
  have hP : va_P g.1 vwCl (q_mdW g d (n_len M 0)) H := hP
  have hD : va_D (q_mAd d) (q_mdW g d (n_len M 0)) := q_mD hJ (fun _ h => h)
  refine lv_iload_n hx hb dX5_wipe_10 rfl (lv_at hl 0 rfl) ?_
  exact q_miret hx hb hr hlk dX5_wipe_11 hP hS (rfl) (rfl)
