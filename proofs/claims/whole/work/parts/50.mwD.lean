/-! the reference's saved states -/
theorem ovl_z (B f : Nat → Int32) (i : Nat) : upd (ovl B f 0 i) i (f i) = ovl B f 0 (i + 1) := by
  have h := ovl_s B f 0 i
  rwa [Nat.zero_add] at h
theorem nI_p {n : Nat} (h : 1 ≤ n) : nI n - 1 = nI (n - 1) := by
  obtain ⟨k, rfl⟩ : ∃ k, n = k + 1 := ⟨n - 1, by omega⟩
  rw [Nat.add_sub_cancel, ← nI_1 k]
  exact Int32.add_sub_cancel (nI k) 1
theorem m_recv (M : q_MV) : m_sav (m_rec M) = m_sav M := by
  by_cases h : m_st M = 6
  · rw [show m_rec M = _ from if_pos h]; rfl
  · rw [show m_rec M = _ from if_neg h]; rfl
theorem m_reci (M : q_MV) : m_iss (m_rec M) = m_iss M := by
  by_cases h : m_st M = 6
  · rw [show m_rec M = _ from if_pos h]; rfl
  · rw [show m_rec M = _ from if_neg h]; rfl
def savM (M : q_MV) (x : Int32) : q_MV := if savE x = 0 then n_iss (n_sav M (ovl (m_sav M) (m_s M) (1336 * tN x) 1336)) (upd (m_iss M) (tN x) 1) else M
def undM (M : q_MV) (V : q_CV) : q_MV := if undE V = 0 then n_s (n_st M (m_st M - 1)) (ovl (m_s M) (fun k => m_bef M (1336 * (m_st M - 1) + k)) 0 1336) else M

set_option maxHeartbeats 2000000 in
set_option maxRecDepth 100000 in
theorem c_X5_save (l : Launch) (g : q_G) (d : Nat → Nat) (M : q_MV) (hJ : q_mInj d) (V : q_CV) (K : Nat) (hc : q_cp (v_now V) (m_s M)) (ho : q_ok K (v_now V)) (hK5 : K ≤ 512) (x : Int32) (h1_ : m_st M ≤ 6) : Met l yX5_save wsX5_save { frames := 1, cells := 0, slots := 0, locals := 22 } (va_Pc [.ref (d 0), .int x] (q_B g (q_mdW g d M))) (q_QM g (q_mAd d) (q_mdW g d (savM M x)) (some (.int (savR V x)))) 0 0 (q_mAd d) := by
  refine q_mm (cc := cX5_save) (maxL := 3) (ret := (some .int)) (by decide) rfl (Nat.le_of_ble_eq_true rfl) ?_
  intro p e s m args below meth c ls hx hb hml hown hts hr hlk hnm hB hag hl
  obtain ⟨hP, hK, hN⟩ := hB
  have hS : va_S (q_mAd d) s.heap s.heap [] := va_S.rf
  have hP : va_P g.1 vwCl (q_mdW g d M) s.heap := hP
  have hD : va_D (q_mAd d) (q_mdW g d M) := q_mD hJ (fun _ h => h)
  have fl_7 := hts (.fieldLink RX5 7 "PubQuizzesModel" "s" "[I") (by decide +kernel)
  have fl_16 := hts (.fieldLink RX5 16 "PubQuizzesModel" "saved" "[I") (by decide +kernel)
  have fl_19 := hts (.fieldLink RX5 19 "PubQuizzesModel" "isSaved" "[Z") (by decide +kernel)
  have hi_X5 : ∀ w ∈ u_ws RX5 TX5 7, w ∈ wsX5_save := by decide +kernel
  have hl : lv_has ls 3 [(0, .ref (d 0)), (1, .int x)] := hl
  have hn10 := ok_n ho
  refine lv_iload_n hx hb dX5_save_0 rfl (lv_at hl 1 rfl) ?_
  refine lv_iconst (v := 0) hx hb dX5_save_1 (by decide) ?_
  refine lv_iconst (v := 1) hx hb dX5_save_2 (by decide) ?_
  refine q_S (As := [.int x, .int 0, .int 1]) (rest := []) ⟨hx, hb, hml, hown, hts⟩ (c_X5_in l x 0 1 ) (va_cwS 3 hts gX5_save_X5_in rfl rfl rfl (by decide +kernel) ⟨Nat.le_of_ble_eq_true rfl, Nat.le_of_ble_eq_true rfl⟩) q_Blind_t (fun _ _ _ => trivial) rfl hl.1 rfl (Nat.le_of_ble_eq_true rfl) dX5_save_3 (Nat.zero_le _) (Nat.zero_le _) ?_
  refine lv_if_ne (tgt := 12) hx hb dX5_save_6 (by decide) (fun c_6 => ?_) (fun c_6 => ?_)
  · skip
    have c_6 : (inR x 0 1) = true := bI_ne c_6
    rw [inSl] at c_6
    obtain ⟨i1, hi1, rfl⟩ := isSl_of c_6
    have ci1 : tN (nI i1) = i1 := tN_n (by omega)
    refine lv_iconst (v := 0) hx hb dX5_save_12 (by decide) ?_
    refine lv_istore_n (lv' := [(2, .int 0), (0, .ref (d 0)), (1, .int (nI i1))]) hx hb dX5_save_13 rfl hl (by decide) rfl (fun ls hl => ?_)
    have L_14 : ∀ (fu i14 : Nat) (H : Heap) (locs : List Loc), va_P g.1 vwCl (q_mdW g d (n_sav M (ovl (m_sav M) (m_s M) (1336 * i1) i14))) H → va_S (q_mAd d) s.heap H locs → i14 ≤ 1336 → 1336 < i14 + fu → ∀ ls : Array Slot, lv_has ls 3 [(2, .int (nI i14)), (0, .ref (d 0)), (1, .int (nI i1))] → W p l e { frames := 1, cells := 0, slots := 0, locals := 22 } s m args below meth c H locs 0 0 (MQ below (q_QM g (q_mAd d) (q_mdW g d (savM M (nI i1))) (some (.int (savR V (nI i1))))) args s 0 0 (q_mAd d)) (F0 m 14 ls []) := by
      intro fu
      induction fu with
      | zero => intro i14 H locs hP hS hi_i14 hn_i14; exact absurd hn_i14 (by omega)
      | succ fu ih_i14 =>
        intro i14 H locs hP hS hi_i14 hn_i14 ls hl
        have hD : va_D (q_mAd d) (q_mdW g d (n_sav M (ovl (m_sav M) (m_s M) (1336 * i1) i14))) := q_mD hJ (fun _ h => h)
        refine lv_iload_n hx hb dX5_save_14 rfl (lv_at hl 0 rfl) ?_
        refine lv_sipush (v := 1336) hx hb dX5_save_15 (by decide) ?_
        refine lv_icmp_ge (tgt := 45) hx hb dX5_save_18 (by decide) (fun c_18 => ?_) (fun c_18 => ?_)
        · skip
          have e_18 : i14 = 1336 := q_ge_T (by omega) hi_i14 c_18
          subst e_18
          refine lv_aload_n hx hb dX5_save_45 rfl (lv_at hl 1 rfl) ?_
          refine va_get (D := g.1) (ci := 4) (v := .ref (d 4)) (C := RX5) (T := TX5) (N := 7) hx hb hts hi_X5 hown hK hP 0 rfl rfl 3 (by decide) fl_19 (fun _ h9 => h9) rfl dX5_save_46 ?_
          refine lv_iload_n hx hb dX5_save_49 rfl (lv_at hl 2 rfl) ?_
          refine lv_iconst (v := 1) hx hb dX5_save_50 (by decide) ?_
          refine q_zast (j := i1) hx hb hK hP hD hS 4 2 rfl rfl (rfl) (by omega) (by decide) dX5_save_51 (fun H locs hP hS => ?_)
          have hP : va_P g.1 vwCl (q_mdW g d (n_iss (n_sav M (ovl (m_sav M) (m_s M) (1336 * i1) 1336)) (upd (m_iss M) i1 1))) H := hP
          have hD : va_D (q_mAd d) (q_mdW g d (n_iss (n_sav M (ovl (m_sav M) (m_s M) (1336 * i1) 1336)) (upd (m_iss M) i1 1))) := q_mD hJ (fun _ h => h)
          refine lv_aload_n hx hb dX5_save_52 rfl (lv_at hl 1 rfl) ?_
          refine va_get (D := g.1) (ci := 4) (v := .ref (d 1)) (C := RX5) (T := TX5) (N := 7) hx hb hts hi_X5 hown hK hP 0 rfl rfl 0 (by decide) fl_7 (fun _ h9 => h9) rfl dX5_save_53 ?_
          refine lv_iconst (v := 4) hx hb dX5_save_56 (by decide) ?_
          refine q_iald (j := 4) hx hb hK hP 1 0 rfl rfl (by omega) (by decide) dX5_save_57 ?_
          refine q_reI (show (m_s M 4 : Int32) = nI (s_n (v_now V)) from cp_n hc) ?_
          exact q_miret hx hb hr hlk dX5_save_58 hP hS (by simp [savR, savM, savE, ci1, c_6]) (by first | (simp [savM, savE, ci1, c_6]; done) | (simp only [savM, savE, ci1, c_6]; rfl))
        · skip
          have lt_i14 : i14 < 1336 := q_ge_F (by omega) hi_i14 c_18
          refine lv_aload_n hx hb dX5_save_21 rfl (lv_at hl 1 rfl) ?_
          refine va_get (D := g.1) (ci := 4) (v := .ref (d 3)) (C := RX5) (T := TX5) (N := 7) hx hb hts hi_X5 hown hK hP 0 rfl rfl 2 (by decide) fl_16 (fun _ h9 => h9) rfl dX5_save_22 ?_
          refine lv_sipush (v := 1336) hx hb dX5_save_25 (by decide) ?_
          refine lv_iload_n hx hb dX5_save_28 rfl (lv_at hl 2 rfl) ?_
          refine lv_imul hx hb dX5_save_29 ?_
          refine q_reI (show ((1336 * (nI i1)) : Int32) = nI (1336 * i1) from pk_mul _ _) ?_
          refine lv_iload_n hx hb dX5_save_30 rfl (lv_at hl 0 rfl) ?_
          refine lv_iadd hx hb dX5_save_31 ?_
          refine q_reI (show (((nI (1336 * i1)) + (nI i14)) : Int32) = nI (1336 * i1 + i14) from nI_add _ _) ?_
          refine lv_aload_n hx hb dX5_save_32 rfl (lv_at hl 1 rfl) ?_
          refine va_get (D := g.1) (ci := 4) (v := .ref (d 1)) (C := RX5) (T := TX5) (N := 7) hx hb hts hi_X5 hown hK hP 0 rfl rfl 0 (by decide) fl_7 (fun _ h9 => h9) rfl dX5_save_33 ?_
          refine lv_iload_n hx hb dX5_save_36 rfl (lv_at hl 0 rfl) ?_
          refine q_iald (j := i14) hx hb hK hP 1 0 rfl rfl (by omega) (by decide) dX5_save_37 ?_
          refine q_iast (j := (1336 * i1 + i14)) hx hb hK hP hD hS 3 0 rfl rfl (by omega) (by decide) dX5_save_38 (fun H locs hP hS => ?_)
          have hP : va_P g.1 vwCl (q_mdW g d (n_sav (n_sav M (ovl (m_sav M) (m_s M) (1336 * i1) i14)) (upd (ovl (m_sav M) (m_s M) (1336 * i1) i14) (1336 * i1 + i14) (m_s M i14)))) H := hP
          have hD : va_D (q_mAd d) (q_mdW g d (n_sav (n_sav M (ovl (m_sav M) (m_s M) (1336 * i1) i14)) (upd (ovl (m_sav M) (m_s M) (1336 * i1) i14) (1336 * i1 + i14) (m_s M i14)))) := q_mD hJ (fun _ h => h)
          refine lv_iinc (v := nI (i14 + 1)) (lv' := [(2, .int (nI (i14 + 1))), (0, .ref (d 0)), (1, .int (nI i1))]) hx hb dX5_save_39 hl (k := 0) rfl (nI_1 _) (by decide) rfl (fun ls hl => ?_)
          refine lv_goto (tgt := 14) hx hb dX5_save_42 (by decide) ?_
          exact ih_i14 (i14 + 1) _ _ (by rw [← ovl_s]; exact hP) hS lt_i14 (by omega) ls (lv_sub hl [0, 1, 2] rfl)
    exact L_14 (1336 + 1) 0 _ _ (by rw [ovl_0]; exact hP) hS (Nat.zero_le _) (by omega) ls (lv_sub hl [0, 1, 2] rfl)
  · skip
    have c_6 : (inR x 0 1) = false := bI_eq c_6
    rw [inSl] at c_6
    refine lv_bipush (v := (-2)) hx hb dX5_save_9 (by decide) ?_
    exact q_miret hx hb hr hlk dX5_save_11 hP hS (by simp [savR, savM, savE, c_6]) (by first | (simp [savM, savE, c_6]; done) | (simp only [savM, savE, c_6]; rfl))

set_option maxHeartbeats 2000000 in
set_option maxRecDepth 100000 in
theorem c_X5_undo (l : Launch) (g : q_G) (d : Nat → Nat) (M : q_MV) (hJ : q_mInj d) (V : q_CV) (K : Nat) (hc : q_cp (v_now V) (m_s M)) (ho : q_ok K (v_now V)) (hK5 : K ≤ 512) (h1_ : m_st M ≤ 6) (h2_ : m_st M = v_hl V) : Met l yX5_undo wsX5_undo { frames := 0, cells := 0, slots := 0, locals := 0 } (va_Pc [.ref (d 0)] (q_B g (q_mdW g d M))) (q_QM g (q_mAd d) (q_mdW g d (undM M V)) (some (.int (undR V)))) 0 0 (q_mAd d) := by
  refine q_mm (cc := cX5_undo) (maxL := 2) (ret := (some .int)) (by decide) rfl (Nat.le_of_ble_eq_true rfl) ?_
  intro p e s m args below meth c ls hx hb hml hown hts hr hlk hnm hB hag hl
  obtain ⟨hP, hK, hN⟩ := hB
  have hS : va_S (q_mAd d) s.heap s.heap [] := va_S.rf
  have hP : va_P g.1 vwCl (q_mdW g d M) s.heap := hP
  have hD : va_D (q_mAd d) (q_mdW g d M) := q_mD hJ (fun _ h => h)
  have fl_7 := hts (.fieldLink RX5 7 "PubQuizzesModel" "s" "[I") (by decide +kernel)
  have fl_13 := hts (.fieldLink RX5 13 "PubQuizzesModel" "before" "[I") (by decide +kernel)
  have fl_35 := hts (.fieldLink RX5 35 "PubQuizzesModel" "states" "I") (by decide +kernel)
  have hi_X5 : ∀ w ∈ u_ws RX5 TX5 7, w ∈ wsX5_undo := by decide +kernel
  have hl : lv_has ls 2 [(0, .ref (d 0))] := hl
  have hn10 := ok_n ho
  refine lv_aload_n hx hb dX5_undo_0 rfl (lv_at hl 0 rfl) ?_
  refine va_get (D := g.1) (ci := 4) (v := .int (nI (m_st M))) (C := RX5) (T := TX5) (N := 7) hx hb hts hi_X5 hown hK hP 0 rfl rfl 6 (by decide) fl_35 (fun _ h9 => h9) rfl dX5_undo_1 ?_
  refine lv_if_ne (tgt := 10) hx hb dX5_undo_4 (by decide) (fun c_4 => ?_) (fun c_4 => ?_)
  · skip
    have n0 : ¬ v_hl V = 0 := fun q => c_4 (by rw [h2_, q]; rfl)
    have n1 : ¬ m_st M = 0 := fun q => n0 (h2_ ▸ q)
    refine lv_aload_n hx hb dX5_undo_10 rfl (lv_at hl 0 rfl) ?_
    refine lv_dup hx hb dX5_undo_11 rfl ?_
    refine va_get (D := g.1) (ci := 4) (v := .int (nI (m_st M))) (C := RX5) (T := TX5) (N := 7) hx hb hts hi_X5 hown hK hP 0 rfl rfl 6 (by decide) fl_35 (fun _ h9 => h9) rfl dX5_undo_12 ?_
    refine lv_iconst (v := 1) hx hb dX5_undo_15 (by decide) ?_
    refine lv_isub hx hb dX5_undo_16 ?_
    refine q_reI (show (((nI (m_st M)) - 1) : Int32) = nI (m_st M - 1) from nI_p (by omega)) ?_
    refine va_put (D := g.1) (ci := 4) (v := .int (nI (m_st M - 1))) (ty := .int) (C := RX5) (T := TX5) (N := 7) hx hb hts hi_X5 tyX5 tyX5_ok nmX5 hown hK hP hD hS 0 rfl rfl 6 (by decide) fl_35 (fun _ h9 => h9) rfl (by decide +kernel) rfl rfl (Nat.le_of_ble_eq_true rfl) dX5_undo_17 (fun H locs hP _ hS => ?_)
    have hP : va_P g.1 vwCl (q_mdW g d (n_st M (m_st M - 1))) H := hP
    have hD : va_D (q_mAd d) (q_mdW g d (n_st M (m_st M - 1))) := q_mD hJ (fun _ h => h)
    refine lv_iconst (v := 0) hx hb dX5_undo_20 (by decide) ?_
    refine lv_istore_n (lv' := [(1, .int 0), (0, .ref (d 0))]) hx hb dX5_undo_21 rfl hl (by decide) rfl (fun ls hl => ?_)
    have L_22 : ∀ (fu i22 : Nat) (H : Heap) (locs : List Loc), va_P g.1 vwCl (q_mdW g d (n_s (n_st M (m_st M - 1)) (ovl (m_s M) (fun k => m_bef M (1336 * (m_st M - 1) + k)) 0 i22))) H → va_S (q_mAd d) s.heap H locs → i22 ≤ 1336 → 1336 < i22 + fu → ∀ ls : Array Slot, lv_has ls 2 [(1, .int (nI i22)), (0, .ref (d 0))] → W p l e { frames := 0, cells := 0, slots := 0, locals := 0 } s m args below meth c H locs 0 0 (MQ below (q_QM g (q_mAd d) (q_mdW g d (undM M V)) (some (.int (undR V)))) args s 0 0 (q_mAd d)) (F0 m 22 ls []) := by
      intro fu
      induction fu with
      | zero => intro i22 H locs hP hS hi_i22 hn_i22; exact absurd hn_i22 (by omega)
      | succ fu ih_i22 =>
        intro i22 H locs hP hS hi_i22 hn_i22 ls hl
        have hD : va_D (q_mAd d) (q_mdW g d (n_s (n_st M (m_st M - 1)) (ovl (m_s M) (fun k => m_bef M (1336 * (m_st M - 1) + k)) 0 i22))) := q_mD hJ (fun _ h => h)
        refine lv_iload_n hx hb dX5_undo_22 rfl (lv_at hl 0 rfl) ?_
        refine lv_sipush (v := 1336) hx hb dX5_undo_23 (by decide) ?_
        refine lv_icmp_ge (tgt := 56) hx hb dX5_undo_26 (by decide) (fun c_26 => ?_) (fun c_26 => ?_)
        · skip
          have e_26 : i22 = 1336 := q_ge_T (by omega) hi_i22 c_26
          subst e_26
          refine lv_aload_n hx hb dX5_undo_56 rfl (lv_at hl 1 rfl) ?_
          refine va_get (D := g.1) (ci := 4) (v := .int (nI (m_st M - 1))) (C := RX5) (T := TX5) (N := 7) hx hb hts hi_X5 hown hK hP 0 rfl rfl 6 (by decide) fl_35 (fun _ h9 => h9) rfl dX5_undo_57 ?_
          refine q_reI (show (nI (m_st M - 1) : Int32) = nI (v_hl V - 1) from by rw [h2_]) ?_
          exact q_miret hx hb hr hlk dX5_undo_60 hP hS (by simp [undR, undM, undE, n0, c_4]) (by first | (rw [undM, if_pos (show undE V = 0 by rw [undE, if_neg n0])]; done) | (rw [show undM M V = M from if_neg (by rw [undE, if_pos n0]; decide)]))
        · skip
          have lt_i22 : i22 < 1336 := q_ge_F (by omega) hi_i22 c_26
          refine lv_aload_n hx hb dX5_undo_29 rfl (lv_at hl 1 rfl) ?_
          refine va_get (D := g.1) (ci := 4) (v := .ref (d 1)) (C := RX5) (T := TX5) (N := 7) hx hb hts hi_X5 hown hK hP 0 rfl rfl 0 (by decide) fl_7 (fun _ h9 => h9) rfl dX5_undo_30 ?_
          refine lv_iload_n hx hb dX5_undo_33 rfl (lv_at hl 0 rfl) ?_
          refine lv_aload_n hx hb dX5_undo_34 rfl (lv_at hl 1 rfl) ?_
          refine va_get (D := g.1) (ci := 4) (v := .ref (d 2)) (C := RX5) (T := TX5) (N := 7) hx hb hts hi_X5 hown hK hP 0 rfl rfl 1 (by decide) fl_13 (fun _ h9 => h9) rfl dX5_undo_35 ?_
          refine lv_sipush (v := 1336) hx hb dX5_undo_38 (by decide) ?_
          refine lv_aload_n hx hb dX5_undo_41 rfl (lv_at hl 1 rfl) ?_
          refine va_get (D := g.1) (ci := 4) (v := .int (nI (m_st M - 1))) (C := RX5) (T := TX5) (N := 7) hx hb hts hi_X5 hown hK hP 0 rfl rfl 6 (by decide) fl_35 (fun _ h9 => h9) rfl dX5_undo_42 ?_
          refine lv_imul hx hb dX5_undo_45 ?_
          refine q_reI (show ((1336 * (nI (m_st M - 1))) : Int32) = nI (1336 * (m_st M - 1)) from pk_mul _ _) ?_
          refine lv_iload_n hx hb dX5_undo_46 rfl (lv_at hl 0 rfl) ?_
          refine lv_iadd hx hb dX5_undo_47 ?_
          refine q_reI (show (((nI (1336 * (m_st M - 1))) + (nI i22)) : Int32) = nI (1336 * (m_st M - 1) + i22) from nI_add _ _) ?_
          refine q_iald (j := (1336 * (m_st M - 1) + i22)) hx hb hK hP 2 0 rfl rfl (by omega) (by decide) dX5_undo_48 ?_
          refine q_iast (j := i22) hx hb hK hP hD hS 1 0 rfl rfl (by omega) (by decide) dX5_undo_49 (fun H locs hP hS => ?_)
          have hP : va_P g.1 vwCl (q_mdW g d (n_s (n_s (n_st M (m_st M - 1)) (ovl (m_s M) (fun k => m_bef M (1336 * (m_st M - 1) + k)) 0 i22)) (upd (ovl (m_s M) (fun k => m_bef M (1336 * (m_st M - 1) + k)) 0 i22) i22 (m_bef M (1336 * (m_st M - 1) + i22))))) H := hP
          have hD : va_D (q_mAd d) (q_mdW g d (n_s (n_s (n_st M (m_st M - 1)) (ovl (m_s M) (fun k => m_bef M (1336 * (m_st M - 1) + k)) 0 i22)) (upd (ovl (m_s M) (fun k => m_bef M (1336 * (m_st M - 1) + k)) 0 i22) i22 (m_bef M (1336 * (m_st M - 1) + i22))))) := q_mD hJ (fun _ h => h)
          refine lv_iinc (v := nI (i22 + 1)) (lv' := [(1, .int (nI (i22 + 1))), (0, .ref (d 0))]) hx hb dX5_undo_50 hl (k := 0) rfl (nI_1 _) (by decide) rfl (fun ls hl => ?_)
          refine lv_goto (tgt := 22) hx hb dX5_undo_53 (by decide) ?_
          exact ih_i22 (i22 + 1) _ _ (by rw [← ovl_z]; exact hP) hS lt_i22 (by omega) ls (lv_sub hl [0, 1] rfl)
    exact L_22 (1336 + 1) 0 _ _ (by rw [ovl_0]; exact hP) hS (Nat.zero_le _) (by omega) ls (lv_sub hl [0, 1] rfl)
  · skip
    have n0 : v_hl V = 0 := h2_ ▸ (nI_eq (a := m_st M) (b := 0) (by omega) (by decide)).mp c_4
    refine lv_bipush (v := (-5)) hx hb dX5_undo_7 (by decide) ?_
    exact q_miret hx hb hr hlk dX5_undo_9 hP hS (by simp [undR, undM, undE, n0, c_4]) (by first | (rw [undM, if_pos (show undE V = 0 by rw [undE, if_neg n0])]; done) | (rw [show undM M V = M from if_neg (by rw [undE, if_pos n0]; decide)]))
