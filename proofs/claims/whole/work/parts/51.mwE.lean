/-! the reference's saved states, on -/
theorem ovl_r {B f : Nat → Int32} {k n : Nat} (h : k < n) : ovl B f 0 n k = f k := by
  unfold ovl
  rw [if_pos ⟨Nat.zero_le k, by omega⟩, Nat.sub_zero]
def resM (M : q_MV) (V : q_CV) (x : Int32) : q_MV := if resE V x = 0 then n_s (m_rec M) (ovl (m_s (m_rec M)) (fun k => m_sav (m_rec M) (1336 * tN x + k)) 0 1336) else M

set_option maxHeartbeats 2000000 in
set_option maxRecDepth 100000 in
theorem c_X5_restore (l : Launch) (g : q_G) (d : Nat → Nat) (M : q_MV) (hJ : q_mInj d) (V : q_CV) (K : Nat) (hc : q_cp (v_now V) (m_s M)) (ho : q_ok K (v_now V)) (hK5 : K ≤ 512) (x : Int32) (h1_ : m_st M ≤ 6) (h2_ : ∀ i, i < 2 → m_iss M i = v_sav V i) (h3_ : ∀ i, i < 2 → ¬ v_sav V i = 0 → m_sav M (1336 * i + 4) = nI (s_n (v_sx V (i + 7)))) : Met l yX5_restore wsX5_restore { frames := 1, cells := 0, slots := 0, locals := 22 } (va_Pc [.ref (d 0), .int x] (q_B g (q_mdW g d M))) (q_QM g (q_mAd d) (q_mdW g d (resM M V x)) (some (.int (resR V x)))) 0 0 (q_mAd d) := by
  refine q_mm (cc := cX5_restore) (maxL := 3) (ret := (some .int)) (by decide) rfl (Nat.le_of_ble_eq_true rfl) ?_
  intro p e s m args below meth c ls hx hb hml hown hts hr hlk hnm hB hag hl
  obtain ⟨hP, hK, hN⟩ := hB
  have hS : va_S (q_mAd d) s.heap s.heap [] := va_S.rf
  have hP : va_P g.1 vwCl (q_mdW g d M) s.heap := hP
  have hD : va_D (q_mAd d) (q_mdW g d M) := q_mD hJ (fun _ h => h)
  have fl_7 := hts (.fieldLink RX5 7 "PubQuizzesModel" "s" "[I") (by decide +kernel)
  have fl_16 := hts (.fieldLink RX5 16 "PubQuizzesModel" "saved" "[I") (by decide +kernel)
  have fl_19 := hts (.fieldLink RX5 19 "PubQuizzesModel" "isSaved" "[Z") (by decide +kernel)
  have hi_X5 : ∀ w ∈ u_ws RX5 TX5 7, w ∈ wsX5_restore := by decide +kernel
  have hl : lv_has ls 3 [(0, .ref (d 0)), (1, .int x)] := hl
  have hn10 := ok_n ho
  refine lv_iload_n hx hb dX5_restore_0 rfl (lv_at hl 1 rfl) ?_
  refine lv_iconst (v := 0) hx hb dX5_restore_1 (by decide) ?_
  refine lv_iconst (v := 1) hx hb dX5_restore_2 (by decide) ?_
  refine q_S (As := [.int x, .int 0, .int 1]) (rest := []) ⟨hx, hb, hml, hown, hts⟩ (c_X5_in l x 0 1 ) (va_cwS 3 hts gX5_restore_X5_in rfl rfl rfl (by decide +kernel) ⟨Nat.le_of_ble_eq_true rfl, Nat.le_of_ble_eq_true rfl⟩) q_Blind_t (fun _ _ _ => trivial) rfl hl.1 rfl (Nat.le_of_ble_eq_true rfl) dX5_restore_3 (Nat.zero_le _) (Nat.zero_le _) ?_
  refine lv_if_ne (tgt := 12) hx hb dX5_restore_6 (by decide) (fun c_6 => ?_) (fun c_6 => ?_)
  · skip
    have c_6 : (inR x 0 1) = true := bI_ne c_6
    rw [inSl] at c_6
    obtain ⟨i1, hi1, rfl⟩ := isSl_of c_6
    have ci1 : tN (nI i1) = i1 := tN_n (by omega)
    refine lv_aload_n hx hb dX5_restore_12 rfl (lv_at hl 0 rfl) ?_
    refine va_get (D := g.1) (ci := 4) (v := .ref (d 4)) (C := RX5) (T := TX5) (N := 7) hx hb hts hi_X5 hown hK hP 0 rfl rfl 3 (by decide) fl_19 (fun _ h9 => h9) rfl dX5_restore_13 ?_
    refine lv_iload_n hx hb dX5_restore_16 rfl (lv_at hl 1 rfl) ?_
    refine q_zald (j := i1) hx hb hK hP 4 2 rfl rfl (by omega) (by decide) dX5_restore_17 ?_
    refine q_reI (show (m_iss M i1 : Int32) = v_sav V i1 from h2_ i1 (by omega)) ?_
    refine lv_if_ne (tgt := 24) hx hb dX5_restore_18 (by decide) (fun c_18 => ?_) (fun c_18 => ?_)
    · skip
      refine lv_aload_n hx hb dX5_restore_24 rfl (lv_at hl 0 rfl) ?_
      refine q_VM (As := []) (rest := []) (st2 := []) ⟨hx, hb, hml, hown, hts⟩ (c_X5_record l g d M hJ  (by first | omega | assumption)) (cwV 0 hts gX5_restore_X5_record rfl rfl rfl (by decide +kernel) ⟨Nat.le_of_ble_eq_true rfl, Nat.le_of_ble_eq_true rfl⟩) q_B_blind (va_recv hK hP (ci := 4) (q0 := 0) rfl rfl) (q_B_of hP hK hN) rfl hl.1 rfl (Nat.le_of_ble_eq_true rfl) dX5_restore_25 (Nat.zero_le _) (Nat.zero_le _) hS (fun _ h => h) rfl rfl rfl (fun H locs hP _ hS _ => ?_)
      have hP : va_P g.1 vwCl (q_mdW g d (m_rec M)) H := hP
      have hD : va_D (q_mAd d) (q_mdW g d (m_rec M)) := q_mD hJ (fun _ h => h)
      have hc : q_cp (v_now V) (m_s (m_rec M)) := by rw [m_recs]; exact hc
      refine lv_iconst (v := 0) hx hb dX5_restore_28 (by decide) ?_
      refine lv_istore_n (lv' := [(2, .int 0), (0, .ref (d 0)), (1, .int (nI i1))]) hx hb dX5_restore_29 rfl hl (by decide) rfl (fun ls hl => ?_)
      have L_30 : ∀ (fu i30 : Nat) (H : Heap) (locs : List Loc), va_P g.1 vwCl (q_mdW g d (n_s (m_rec M) (ovl (m_s (m_rec M)) (fun k => m_sav (m_rec M) (1336 * i1 + k)) 0 i30))) H → va_S (q_mAd d) s.heap H locs → i30 ≤ 1336 → 1336 < i30 + fu → ∀ ls : Array Slot, lv_has ls 3 [(2, .int (nI i30)), (0, .ref (d 0)), (1, .int (nI i1))] → W p l e { frames := 1, cells := 0, slots := 0, locals := 22 } s m args below meth c H locs 0 0 (MQ below (q_QM g (q_mAd d) (q_mdW g d (resM M V (nI i1))) (some (.int (resR V (nI i1))))) args s 0 0 (q_mAd d)) (F0 m 30 ls []) := by
        intro fu
        induction fu with
        | zero => intro i30 H locs hP hS hi_i30 hn_i30; exact absurd hn_i30 (by omega)
        | succ fu ih_i30 =>
          intro i30 H locs hP hS hi_i30 hn_i30 ls hl
          have hD : va_D (q_mAd d) (q_mdW g d (n_s (m_rec M) (ovl (m_s (m_rec M)) (fun k => m_sav (m_rec M) (1336 * i1 + k)) 0 i30))) := q_mD hJ (fun _ h => h)
          refine lv_iload_n hx hb dX5_restore_30 rfl (lv_at hl 0 rfl) ?_
          refine lv_sipush (v := 1336) hx hb dX5_restore_31 (by decide) ?_
          refine lv_icmp_ge (tgt := 61) hx hb dX5_restore_34 (by decide) (fun c_34 => ?_) (fun c_34 => ?_)
          · skip
            have e_34 : i30 = 1336 := q_ge_T (by omega) hi_i30 c_34
            subst e_34
            refine lv_aload_n hx hb dX5_restore_61 rfl (lv_at hl 1 rfl) ?_
            refine va_get (D := g.1) (ci := 4) (v := .ref (d 1)) (C := RX5) (T := TX5) (N := 7) hx hb hts hi_X5 hown hK hP 0 rfl rfl 0 (by decide) fl_7 (fun _ h9 => h9) rfl dX5_restore_62 ?_
            refine lv_iconst (v := 4) hx hb dX5_restore_65 (by decide) ?_
            refine q_iald (j := 4) hx hb hK hP 1 0 rfl rfl (by omega) (by decide) dX5_restore_66 ?_
            refine q_reI (show (ovl (m_s (m_rec M)) (fun k => m_sav (m_rec M) (1336 * i1 + k)) 0 1336 4 : Int32) = nI (s_n (v_sx V (i1 + 7))) from (ovl_r (by omega)).trans (by rw [m_recv]; exact h3_ i1 (by omega) c_18)) ?_
            exact q_miret hx hb hr hlk dX5_restore_67 hP hS (by simp [resR, resM, resE, ci1, c_6, c_18]) (by first | (simp [resM, resE, ci1, c_6, c_18]; done) | (simp only [resM, resE, ci1, c_6, c_18]; rfl))
          · skip
            have lt_i30 : i30 < 1336 := q_ge_F (by omega) hi_i30 c_34
            refine lv_aload_n hx hb dX5_restore_37 rfl (lv_at hl 1 rfl) ?_
            refine va_get (D := g.1) (ci := 4) (v := .ref (d 1)) (C := RX5) (T := TX5) (N := 7) hx hb hts hi_X5 hown hK hP 0 rfl rfl 0 (by decide) fl_7 (fun _ h9 => h9) rfl dX5_restore_38 ?_
            refine lv_iload_n hx hb dX5_restore_41 rfl (lv_at hl 0 rfl) ?_
            refine lv_aload_n hx hb dX5_restore_42 rfl (lv_at hl 1 rfl) ?_
            refine va_get (D := g.1) (ci := 4) (v := .ref (d 3)) (C := RX5) (T := TX5) (N := 7) hx hb hts hi_X5 hown hK hP 0 rfl rfl 2 (by decide) fl_16 (fun _ h9 => h9) rfl dX5_restore_43 ?_
            refine lv_sipush (v := 1336) hx hb dX5_restore_46 (by decide) ?_
            refine lv_iload_n hx hb dX5_restore_49 rfl (lv_at hl 2 rfl) ?_
            refine lv_imul hx hb dX5_restore_50 ?_
            refine q_reI (show ((1336 * (nI i1)) : Int32) = nI (1336 * i1) from pk_mul _ _) ?_
            refine lv_iload_n hx hb dX5_restore_51 rfl (lv_at hl 0 rfl) ?_
            refine lv_iadd hx hb dX5_restore_52 ?_
            refine q_reI (show (((nI (1336 * i1)) + (nI i30)) : Int32) = nI (1336 * i1 + i30) from nI_add _ _) ?_
            refine q_iald (j := (1336 * i1 + i30)) hx hb hK hP 3 0 rfl rfl (by omega) (by decide) dX5_restore_53 ?_
            refine q_iast (j := i30) hx hb hK hP hD hS 1 0 rfl rfl (by omega) (by decide) dX5_restore_54 (fun H locs hP hS => ?_)
            have hP : va_P g.1 vwCl (q_mdW g d (n_s (n_s (m_rec M) (ovl (m_s (m_rec M)) (fun k => m_sav (m_rec M) (1336 * i1 + k)) 0 i30)) (upd (ovl (m_s (m_rec M)) (fun k => m_sav (m_rec M) (1336 * i1 + k)) 0 i30) i30 (m_sav (m_rec M) (1336 * i1 + i30))))) H := hP
            have hD : va_D (q_mAd d) (q_mdW g d (n_s (n_s (m_rec M) (ovl (m_s (m_rec M)) (fun k => m_sav (m_rec M) (1336 * i1 + k)) 0 i30)) (upd (ovl (m_s (m_rec M)) (fun k => m_sav (m_rec M) (1336 * i1 + k)) 0 i30) i30 (m_sav (m_rec M) (1336 * i1 + i30))))) := q_mD hJ (fun _ h => h)
            refine lv_iinc (v := nI (i30 + 1)) (lv' := [(2, .int (nI (i30 + 1))), (0, .ref (d 0)), (1, .int (nI i1))]) hx hb dX5_restore_55 hl (k := 0) rfl (nI_1 _) (by decide) rfl (fun ls hl => ?_)
            refine lv_goto (tgt := 30) hx hb dX5_restore_58 (by decide) ?_
            exact ih_i30 (i30 + 1) _ _ (by rw [← ovl_z]; exact hP) hS lt_i30 (by omega) ls (lv_sub hl [0, 1, 2] rfl)
      exact L_30 (1336 + 1) 0 _ _ (by rw [ovl_0]; exact hP) hS (Nat.zero_le _) (by omega) ls (lv_sub hl [0, 1, 2] rfl)
    · skip
      refine lv_bipush (v := (-5)) hx hb dX5_restore_21 (by decide) ?_
      exact q_miret hx hb hr hlk dX5_restore_23 hP hS (by simp [resR, resM, resE, ci1, c_6, c_18]) (by first | (simp [resM, resE, ci1, c_6, c_18]; done) | (simp only [resM, resE, ci1, c_6, c_18]; rfl))
  · skip
    have c_6 : (inR x 0 1) = false := bI_eq c_6
    rw [inSl] at c_6
    refine lv_bipush (v := (-2)) hx hb dX5_restore_9 (by decide) ?_
    exact q_miret hx hb hr hlk dX5_restore_11 hP hS (by simp [resR, resM, resE, c_6]) (by first | (simp [resM, resE, c_6]; done) | (simp only [resM, resE, c_6]; rfl))
