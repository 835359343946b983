/-! the reference's put -/
theorem c255 (x : Int64) : ∃ c, c < 256 ∧ x &&& 255 = lN c ∧ (x &&& 255).toInt32 = nI c := by
  obtain ⟨n, hn, rfl⟩ := wb_of x
  have e : lN n &&& 255 = lN (n % 256) := wb_mask (k := 8) hn (by decide)
  exact ⟨n % 256, Nat.mod_lt _ (by decide), e, by rw [e, lN_i]⟩
theorem i2c_a : ∀ c : Fin 256, ((nI c.val).toUInt32 % 65536).toInt32 = nI c.val := by decide +kernel
theorem nar_a : ∀ c : Fin 256, vp_nar .char (nI c.val) = nI c.val := by decide +kernel
theorem i2c_255 (x : Int64) : ((x &&& 255).toInt32.toUInt32 % 65536).toInt32 = (x &&& 255).toInt32 := by
  obtain ⟨c, hc, -, e⟩ := c255 x
  rw [e]; exact i2c_a ⟨c, hc⟩
theorem nar_255 (x : Int64) : vp_nar .char (x &&& 255).toInt32 = (x &&& 255).toInt32 := by
  obtain ⟨c, hc, -, e⟩ := c255 x
  rw [e]; exact nar_a ⟨c, hc⟩
theorem ch_lt {x : Int64} (h : lg_cmp (x &&& 255) 33 < 0) : chok x = false := by
  rw [lg_cmp_lt] at h
  obtain ⟨c, hc, e1, e2⟩ := c255 x
  rw [e1] at h
  refine chok_1 ?_
  rw [e2]
  exact nI_lt (b := 33) ((pk_lLT (b := 33) (by omega) (by decide)).mp h) (by decide)
theorem ch_gt {x : Int64} (h : ¬ lg_cmp (x &&& 255) 126 ≤ 0) : chok x = false := by
  rw [lg_cmp_le] at h
  obtain ⟨c, hc, e1, e2⟩ := c255 x
  rw [e1] at h
  refine chok_2 ?_
  rw [e2]
  exact fun q => h ((pk_lLE (b := 126) (by omega) (by decide)).mpr ((nI_leI (b := 126) (by omega) (by decide)).mp q))
theorem ch_yes {x : Int64} (h1 : ¬ lg_cmp (x &&& 255) 33 < 0) (h2 : lg_cmp (x &&& 255) 126 ≤ 0) : chok x = true := by
  rw [lg_cmp_lt] at h1
  rw [lg_cmp_le] at h2
  obtain ⟨c, hc, e1, e2⟩ := c255 x
  rw [e1] at h1 h2
  refine chok_3 ?_ ?_
  · rw [e2]
    exact fun q => h1 ((pk_lLT (b := 33) (by omega) (by decide)).mpr ((nI_ltI (b := 33) (by omega) (by decide)).mp q))
  · rw [e2]
    exact nI_le (b := 126) ((pk_lLE (b := 126) (by omega) (by decide)).mp h2) (by decide)
theorem sh8_at (x : Int64) {k : Nat} (hk : k < 8) : (x.toUInt64 >>> ((nI (8 * k)).toInt64.toUInt64 &&& Int64.toUInt64 63)).toInt64 = sh8 x k := by
  obtain ⟨n, hn, rfl⟩ := wb_of x
  rw [sh8_lN hn, wb_shr hn (by omega), show (256 : Nat) = 2 ^ 8 from rfl, ← Nat.pow_mul]
theorem bp_T {k i : Nat} (h : k < 2 ^ 30) (hi : i ≤ k) (c : nI (k - i) - 1 < 0) : i = k := ap_T (n := 0) (by omega) hi (by rw [Nat.zero_add]; exact c)
theorem bp_F {k i : Nat} (h : k < 2 ^ 30) (hi : i ≤ k) (c : ¬ nI (k - i) - 1 < 0) : i < k := ap_F (n := 0) (by omega) hi (by rw [Nat.zero_add]; exact c)
theorem bp_S {k i : Nat} (h : i < k) : nI (k - i) - 1 + (-1) = nI (k - (i + 1)) - 1 := by
  have := ap_S (m := 0) h
  rwa [Nat.zero_add] at this
def ppf (C : Nat → Int32) (x : Int64) (L n i : Nat) : Nat → Int32 := fun p => if L ≤ p ∧ p < L + i then (sh8 x (n - (p - L) - 1) &&& 255).toInt32 else C p
theorem ppf_0 (C : Nat → Int32) (x : Int64) (L n : Nat) : ppf C x L n 0 = C := by
  funext p; unfold ppf; rw [if_neg (by omega)]
theorem ppf_s (C : Nat → Int32) (x : Int64) (L n i : Nat) : upd (ppf C x L n i) (L + i) (sh8 x (n - i - 1) &&& 255).toInt32 = ppf C x L n (i + 1) := by
  funext p
  unfold upd ppf
  by_cases c : p = L + i
  · rw [if_pos c, if_pos (by omega), c, Nat.add_sub_cancel_left]
  · rw [if_neg c]
    by_cases d : L ≤ p ∧ p < L + i
    · rw [if_pos d, if_pos (by omega)]
    · rw [if_neg d, if_neg (by omega)]
def putM (M : q_MV) (V : q_CV) (x : Int64) : q_MV := if putE V x = 0 then n_len (n_pad M (ppf (m_pad M) x (v_pl V) (chN x 0 8) (chN x 0 8))) (v_pl V + chN x 0 8) else M

set_option maxHeartbeats 2000000 in
set_option maxRecDepth 100000 in
theorem c_X5_put (l : Launch) (g : q_G) (d : Nat → Nat) (M : q_MV) (hJ : q_mInj d) (V : q_CV) (K : Nat) (hc : q_cp (v_now V) (m_s M)) (ho : q_ok K (v_now V)) (hK5 : K ≤ 512) (hpl : v_pl V ≤ 80) (hln : m_len M = v_pl V) (hpd : ∀ k, k < v_pl V → m_pad M k = v_pc V k) (x : Int64) (h1_ : m_st M ≤ 6) : Met l yX5_put wsX5_put { frames := 0, cells := 0, slots := 0, locals := 0 } (va_Pc [.ref (d 0), .long x] (q_B g (q_mdW g d M))) (q_QM g (q_mAd d) (q_mdW g d (putM M V x)) (some (.int (putR V x)))) 0 0 (q_mAd d) := by
  refine q_mm (cc := cX5_put) (maxL := 8) (ret := (some .int)) (by decide) rfl (Nat.le_of_ble_eq_true rfl) ?_
  intro p e s m args below meth c ls hx hb hml hown hts hr hlk hnm hB hag hl
  obtain ⟨hP, hK, hN⟩ := hB
  have hS : va_S (q_mAd d) s.heap s.heap [] := va_S.rf
  have hP : va_P g.1 vwCl (q_mdW g d M) s.heap := hP
  have hD : va_D (q_mAd d) (q_mdW g d M) := q_mD hJ (fun _ h => h)
  have fl_23 := hts (.fieldLink RX5 23 "PubQuizzesModel" "pad" "[C") (by decide +kernel)
  have fl_92 := hts (.fieldLink RX5 92 "PubQuizzesModel" "length" "I") (by decide +kernel)
  have hi_X5 : ∀ w ∈ u_ws RX5 TX5 7, w ∈ wsX5_put := by decide +kernel
  have hl : lv_has ls 8 [(0, .ref (d 0)), (1, .long x)] := hl
  have hn10 := ok_n ho
  have hch8 := chN_le x 8 0
  refine lv_iconst (v := 0) hx hb dX5_put_0 (by decide) ?_
  refine lv_istore_n (lv' := [(3, .int 0), (0, .ref (d 0)), (1, .long x)]) hx hb dX5_put_1 rfl hl (by decide) rfl (fun ls hl => ?_)
  refine lv_lload_n hx hb dX5_put_2 rfl (lv_at hl 2 rfl) ?_
  refine lv_lstore (lv' := [(4, .long x), (3, .int 0), (0, .ref (d 0)), (1, .long x)]) hx hb dX5_put_3 hl (by decide) rfl (fun ls hl => ?_)
  have L_5 : ∀ (fu i5 : Nat) (y4_5 : Int64), y4_5 = sh8 x i5 → (chN x i5 (8 - i5) = chN x 0 8) → i5 ≤ 8 → 8 < i5 + fu → ∀ ls : Array Slot, lv_has ls 8 [(4, .long y4_5), (3, .int (nI i5)), (0, .ref (d 0)), (1, .long x)] → W p l e { frames := 0, cells := 0, slots := 0, locals := 0 } s m args below meth c s.heap [] 0 0 (MQ below (q_QM g (q_mAd d) (q_mdW g d (putM M V x)) (some (.int (putR V x)))) args s 0 0 (q_mAd d)) (F0 m 5 ls []) := by
    intro fu
    induction fu with
    | zero => intro i5 y4_5 ey4_5 hf hi_i5 hn_i5; exact absurd hn_i5 (by omega)
    | succ fu ih_i5 =>
      intro i5 y4_5 ey4_5 hf hi_i5 hn_i5 ls hl
      subst ey4_5
      refine lv_iload_n hx hb dX5_put_5 rfl (lv_at hl 1 rfl) ?_
      refine lv_bipush (v := 8) hx hb dX5_put_6 (by decide) ?_
      refine lv_icmp_ge (tgt := 60) hx hb dX5_put_8 (by decide) (fun c_8 => ?_) (fun c_8 => ?_)
      · skip
        have e_8 : i5 = 8 := q_ge_T (by omega) hi_i5 c_8
        have hz : chN x 0 8 = i5 := by rw [e_8] at hf ⊢; exact hf.symm
        refine lv_iload_n hx hb dX5_put_60 rfl (lv_at hl 1 rfl) ?_
        refine lv_if_ne (tgt := 67) hx hb dX5_put_61 (by decide) (fun c_61 => ?_) (fun c_61 => ?_)
        · skip
          have hnz : ¬ chN x 0 8 = 0 := fun q => c_61 (by rw [← hz, q]; rfl)
          subst hz
          refine lv_aload_n hx hb dX5_put_67 rfl (lv_at hl 2 rfl) ?_
          refine va_get (D := g.1) (ci := 4) (v := .int (nI (m_len M))) (C := RX5) (T := TX5) (N := 7) hx hb hts hi_X5 hown hK hP 0 rfl rfl 5 (by decide) fl_92 (fun _ h9 => h9) rfl dX5_put_68 ?_
          refine q_reI (show (nI (m_len M) : Int32) = nI (v_pl V) from by rw [hln]) ?_
          refine lv_iload_n hx hb dX5_put_71 rfl (lv_at hl 1 rfl) ?_
          refine lv_iadd hx hb dX5_put_72 ?_
          refine q_reI (show (((nI (v_pl V)) + (nI (chN x 0 8))) : Int32) = nI (v_pl V + (chN x 0 8)) from nI_add _ _) ?_
          refine lv_bipush (v := 80) hx hb dX5_put_73 (by decide) ?_
          refine lv_icmp_le (tgt := 81) hx hb dX5_put_75 (by decide) (fun c_75 => ?_) (fun c_75 => ?_)
          · skip
            have c_75 : v_pl V + chN x 0 8 ≤ 80 := (nI_leI (b := 80) (by omega) (by decide)).mp c_75
            refine lv_iload_n hx hb dX5_put_81 rfl (lv_at hl 1 rfl) ?_
            refine lv_iconst (v := 1) hx hb dX5_put_82 (by decide) ?_
            refine lv_isub hx hb dX5_put_83 ?_
            refine lv_istore (lv' := [(6, .int ((nI (chN x 0 8)) - 1)), (4, .long (sh8 x (chN x 0 8))), (3, .int (nI (chN x 0 8))), (0, .ref (d 0)), (1, .long x)]) hx hb dX5_put_84 hl (by decide) rfl (fun ls hl => ?_)
            have L_86 : ∀ (fu i86 : Nat) (y6_86 : Int32) (H : Heap) (locs : List Loc), y6_86 = nI (chN x 0 8 - i86) - 1 → va_P g.1 vwCl (q_mdW g d (n_len (n_pad M (ppf (m_pad M) x (v_pl V) (chN x 0 8) i86)) (v_pl V + i86))) H → va_S (q_mAd d) s.heap H locs → i86 ≤ chN x 0 8 → chN x 0 8 < i86 + fu → ∀ ls : Array Slot, lv_has ls 8 [(6, .int y6_86), (4, .long (sh8 x (chN x 0 8))), (3, .int (nI (chN x 0 8))), (0, .ref (d 0)), (1, .long x)] → W p l e { frames := 0, cells := 0, slots := 0, locals := 0 } s m args below meth c H locs 0 0 (MQ below (q_QM g (q_mAd d) (q_mdW g d (putM M V x)) (some (.int (putR V x)))) args s 0 0 (q_mAd d)) (F0 m 86 ls []) := by
              intro fu
              induction fu with
              | zero => intro i86 y6_86 H locs ey6_86 hP hS hi_i86 hn_i86; exact absurd hn_i86 (by omega)
              | succ fu ih_i86 =>
                intro i86 y6_86 H locs ey6_86 hP hS hi_i86 hn_i86 ls hl
                subst ey6_86
                have hD : va_D (q_mAd d) (q_mdW g d (n_len (n_pad M (ppf (m_pad M) x (v_pl V) (chN x 0 8) i86)) (v_pl V + i86))) := q_mD hJ (fun _ h => h)
                refine lv_iload hx hb dX5_put_86 (lv_at hl 0 rfl) ?_
                refine lv_if_lt (tgt := 129) hx hb dX5_put_88 (by decide) (fun c_88 => ?_) (fun c_88 => ?_)
                · skip
                  have e_88 : i86 = chN x 0 8 := bp_T (by omega) hi_i86 c_88
                  rw [e_88] at hl hP
                  have hP : va_P g.1 vwCl (q_mdW g d (n_len (n_pad M (ppf (m_pad M) x (v_pl V) (chN x 0 8) (chN x 0 8))) (v_pl V + (chN x 0 8)))) H := hP
                  have hD : va_D (q_mAd d) (q_mdW g d (n_len (n_pad M (ppf (m_pad M) x (v_pl V) (chN x 0 8) (chN x 0 8))) (v_pl V + (chN x 0 8)))) := q_mD hJ (fun _ h => h)
                  refine lv_aload_n hx hb dX5_put_129 rfl (lv_at hl 3 rfl) ?_
                  refine va_get (D := g.1) (ci := 4) (v := .int (nI (v_pl V + (chN x 0 8)))) (C := RX5) (T := TX5) (N := 7) hx hb hts hi_X5 hown hK hP 0 rfl rfl 5 (by decide) fl_92 (fun _ h9 => h9) rfl dX5_put_130 ?_
                  exact q_miret hx hb hr hlk dX5_put_133 hP hS (by simp [putR, putM, putE, hnz, c_61, c_75, c_88]) (by simp [putR, putM, putE, hnz, c_61, c_75, c_88])
                · skip
                  have lt_i86 : i86 < chN x 0 8 := bp_F (by omega) hi_i86 c_88
                  refine lv_aload_n hx hb dX5_put_91 rfl (lv_at hl 3 rfl) ?_
                  refine va_get (D := g.1) (ci := 4) (v := .ref (d 5)) (C := RX5) (T := TX5) (N := 7) hx hb hts hi_X5 hown hK hP 0 rfl rfl 4 (by decide) fl_23 (fun _ h9 => h9) rfl dX5_put_92 ?_
                  refine lv_aload_n hx hb dX5_put_95 rfl (lv_at hl 3 rfl) ?_
                  refine va_get (D := g.1) (ci := 4) (v := .int (nI (v_pl V + i86))) (C := RX5) (T := TX5) (N := 7) hx hb hts hi_X5 hown hK hP 0 rfl rfl 5 (by decide) fl_92 (fun _ h9 => h9) rfl dX5_put_96 ?_
                  refine lv_lload_n hx hb dX5_put_99 rfl (lv_at hl 4 rfl) ?_
                  refine lv_bipush (v := 8) hx hb dX5_put_100 (by decide) ?_
                  refine lv_iload hx hb dX5_put_102 (lv_at hl 0 rfl) ?_
                  refine q_reI (show (nI (chN x 0 8 - i86) - 1 : Int32) = nI (chN x 0 8 - i86 - 1) from pk_sub (b := 1) (by omega)) ?_
                  refine lv_imul hx hb dX5_put_104 ?_
                  refine q_reI (show ((8 * (nI (chN x 0 8 - i86 - 1))) : Int32) = nI (8 * (chN x 0 8 - i86 - 1)) from pk_mul _ _) ?_
                  refine lv_lushr (v := (x.toUInt64 >>> ((nI (8 * (chN x 0 8 - i86 - 1))).toInt64.toUInt64 &&& Int64.toUInt64 63)).toInt64) hx hb dX5_put_105 rfl ?_
                  refine q_reL (show (((x.toUInt64 >>> ((nI (8 * (chN x 0 8 - i86 - 1))).toInt64.toUInt64 &&& Int64.toUInt64 63)).toInt64) : Int64) = sh8 x (chN x 0 8 - i86 - 1) from sh8_at x (by omega)) ?_
                  refine lv_ldc2 (v := 255) hx hb hown (hts (.constantLong RX5 139 (255)) (by decide +kernel)) dX5_put_106 ?_
                  refine lv_land hx hb dX5_put_109 ?_
                  refine lv_l2i (v := ((sh8 x (chN x 0 8 - i86 - 1)) &&& 255).toInt32) hx hb dX5_put_110 rfl ?_
                  refine lv_i2c (v := ((((sh8 x (chN x 0 8 - i86 - 1)) &&& 255).toInt32).toUInt32 % 65536).toInt32) hx hb dX5_put_111 rfl ?_
                  refine q_reI (show ((((((sh8 x (chN x 0 8 - i86 - 1)) &&& 255).toInt32).toUInt32 % 65536).toInt32) : Int32) = (sh8 x (chN x 0 8 - i86 - 1) &&& 255).toInt32 from i2c_255 _) ?_
                  refine q_cast (j := (v_pl V + i86)) hx hb hK hP hD hS 5 3 rfl rfl (nar_255 _) (by omega) (by decide) dX5_put_112 (fun H locs hP hS => ?_)
                  have hP : va_P g.1 vwCl (q_mdW g d (n_pad (n_len (n_pad M (ppf (m_pad M) x (v_pl V) (chN x 0 8) i86)) (v_pl V + i86)) (upd (ppf (m_pad M) x (v_pl V) (chN x 0 8) i86) (v_pl V + i86) ((sh8 x (chN x 0 8 - i86 - 1) &&& 255).toInt32)))) H := hP
                  have hD : va_D (q_mAd d) (q_mdW g d (n_pad (n_len (n_pad M (ppf (m_pad M) x (v_pl V) (chN x 0 8) i86)) (v_pl V + i86)) (upd (ppf (m_pad M) x (v_pl V) (chN x 0 8) i86) (v_pl V + i86) ((sh8 x (chN x 0 8 - i86 - 1) &&& 255).toInt32)))) := q_mD hJ (fun _ h => h)
                  refine lv_aload_n hx hb dX5_put_113 rfl (lv_at hl 3 rfl) ?_
                  refine lv_dup hx hb dX5_put_114 rfl ?_
                  refine va_get (D := g.1) (ci := 4) (v := .int (nI (v_pl V + i86))) (C := RX5) (T := TX5) (N := 7) hx hb hts hi_X5 hown hK hP 0 rfl rfl 5 (by decide) fl_92 (fun _ h9 => h9) rfl dX5_put_115 ?_
                  refine lv_iconst (v := 1) hx hb dX5_put_118 (by decide) ?_
                  refine lv_iadd hx hb dX5_put_119 ?_
                  refine q_reI (show (((nI (v_pl V + i86)) + 1) : Int32) = nI (v_pl V + i86 + 1) from nI_add _ _) ?_
                  refine va_put (D := g.1) (ci := 4) (v := .int (nI (v_pl V + i86 + 1))) (ty := .int) (C := RX5) (T := TX5) (N := 7) hx hb hts hi_X5 tyX5 tyX5_ok nmX5 hown hK hP hD hS 0 rfl rfl 5 (by decide) fl_92 (fun _ h9 => h9) rfl (by decide +kernel) rfl rfl (Nat.le_of_ble_eq_true rfl) dX5_put_120 (fun H locs hP _ hS => ?_)
                  have hP : va_P g.1 vwCl (q_mdW g d (n_len (n_pad (n_len (n_pad M (ppf (m_pad M) x (v_pl V) (chN x 0 8) i86)) (v_pl V + i86)) (upd (ppf (m_pad M) x (v_pl V) (chN x 0 8) i86) (v_pl V + i86) ((sh8 x (chN x 0 8 - i86 - 1) &&& 255).toInt32))) (v_pl V + i86 + 1))) H := hP
                  have hD : va_D (q_mAd d) (q_mdW g d (n_len (n_pad (n_len (n_pad M (ppf (m_pad M) x (v_pl V) (chN x 0 8) i86)) (v_pl V + i86)) (upd (ppf (m_pad M) x (v_pl V) (chN x 0 8) i86) (v_pl V + i86) ((sh8 x (chN x 0 8 - i86 - 1) &&& 255).toInt32))) (v_pl V + i86 + 1))) := q_mD hJ (fun _ h => h)
                  refine lv_iinc (v := nI (chN x 0 8 - i86) - 1 + (-1)) (lv' := [(6, .int (nI (chN x 0 8 - i86) - 1 + (-1))), (4, .long (sh8 x (chN x 0 8))), (3, .int (nI (chN x 0 8))), (0, .ref (d 0)), (1, .long x)]) hx hb dX5_put_123 hl (k := 0) rfl (rfl) (by decide) rfl (fun ls hl => ?_)
                  refine lv_goto (tgt := 86) hx hb dX5_put_126 (by decide) ?_
                  exact ih_i86 (i86 + 1) (nI (chN x 0 8 - i86) - 1 + (-1)) _ _ (bp_S lt_i86) (by rw [← ppf_s]; exact hP) hS lt_i86 (by omega) ls (lv_sub hl [0, 1, 2, 3, 4] rfl)
            exact L_86 (chN x 0 8 + 1) 0 ((nI (chN x 0 8)) - 1) _ _ (rfl) (by rw [ppf_0, Nat.add_zero, ← hln]; exact hP) hS (Nat.zero_le _) (by omega) ls (lv_sub hl [0, 1, 2, 3, 4] rfl)
          · skip
            have c_75 : ¬ v_pl V + chN x 0 8 ≤ 80 := fun q => c_75 (nI_le (b := 80) q (by decide))
            refine lv_bipush (v := (-4)) hx hb dX5_put_78 (by decide) ?_
            exact q_miret hx hb hr hlk dX5_put_80 hP hS (by simp [putR, putM, putE, hnz, c_61, c_75]) (by simp [putR, putM, putE, hnz, c_61, c_75])
        · skip
          have hbad : chN x 0 8 = 0 := hz.trans ((nI_eq (b := 0) (by omega) (by decide)).mp c_61)
          refine lv_bipush (v := (-2)) hx hb dX5_put_64 (by decide) ?_
          exact q_miret hx hb hr hlk dX5_put_66 hP hS (by simp [putR, putM, putE, hbad, c_61]) (by simp [putR, putM, putE, hbad, c_61])
      · skip
        have lt_i5 : i5 < 8 := q_ge_F (by omega) hi_i5 c_8
        refine lv_lload hx hb dX5_put_11 (lv_at hl 0 rfl) ?_
        refine lv_lconst (v := 0) hx hb dX5_put_13 (by decide) ?_
        refine W.lcmp hx hb dX5_put_14 ?_
        refine lv_if_eq (tgt := 60) hx hb dX5_put_15 (by decide) (fun c_15 => ?_) (fun c_15 => ?_)
        · skip
          have c_15 := q_cmp_e c_15
          have hz : chN x 0 8 = i5 := by rw [← hf, ch_0 c_15]
          refine lv_iload_n hx hb dX5_put_60 rfl (lv_at hl 1 rfl) ?_
          refine lv_if_ne (tgt := 67) hx hb dX5_put_61 (by decide) (fun c_61 => ?_) (fun c_61 => ?_)
          · skip
            have hnz : ¬ chN x 0 8 = 0 := fun q => c_61 (by rw [← hz, q]; rfl)
            subst hz
            refine lv_aload_n hx hb dX5_put_67 rfl (lv_at hl 2 rfl) ?_
            refine va_get (D := g.1) (ci := 4) (v := .int (nI (m_len M))) (C := RX5) (T := TX5) (N := 7) hx hb hts hi_X5 hown hK hP 0 rfl rfl 5 (by decide) fl_92 (fun _ h9 => h9) rfl dX5_put_68 ?_
            refine q_reI (show (nI (m_len M) : Int32) = nI (v_pl V) from by rw [hln]) ?_
            refine lv_iload_n hx hb dX5_put_71 rfl (lv_at hl 1 rfl) ?_
            refine lv_iadd hx hb dX5_put_72 ?_
            refine q_reI (show (((nI (v_pl V)) + (nI (chN x 0 8))) : Int32) = nI (v_pl V + (chN x 0 8)) from nI_add _ _) ?_
            refine lv_bipush (v := 80) hx hb dX5_put_73 (by decide) ?_
            refine lv_icmp_le (tgt := 81) hx hb dX5_put_75 (by decide) (fun c_75 => ?_) (fun c_75 => ?_)
            · skip
              have c_75 : v_pl V + chN x 0 8 ≤ 80 := (nI_leI (b := 80) (by omega) (by decide)).mp c_75
              refine lv_iload_n hx hb dX5_put_81 rfl (lv_at hl 1 rfl) ?_
              refine lv_iconst (v := 1) hx hb dX5_put_82 (by decide) ?_
              refine lv_isub hx hb dX5_put_83 ?_
              refine lv_istore (lv' := [(6, .int ((nI (chN x 0 8)) - 1)), (4, .long (sh8 x (chN x 0 8))), (3, .int (nI (chN x 0 8))), (0, .ref (d 0)), (1, .long x)]) hx hb dX5_put_84 hl (by decide) rfl (fun ls hl => ?_)
              have L_86 : ∀ (fu i86 : Nat) (y6_86 : Int32) (H : Heap) (locs : List Loc), y6_86 = nI (chN x 0 8 - i86) - 1 → va_P g.1 vwCl (q_mdW g d (n_len (n_pad M (ppf (m_pad M) x (v_pl V) (chN x 0 8) i86)) (v_pl V + i86))) H → va_S (q_mAd d) s.heap H locs → i86 ≤ chN x 0 8 → chN x 0 8 < i86 + fu → ∀ ls : Array Slot, lv_has ls 8 [(6, .int y6_86), (4, .long (sh8 x (chN x 0 8))), (3, .int (nI (chN x 0 8))), (0, .ref (d 0)), (1, .long x)] → W p l e { frames := 0, cells := 0, slots := 0, locals := 0 } s m args below meth c H locs 0 0 (MQ below (q_QM g (q_mAd d) (q_mdW g d (putM M V x)) (some (.int (putR V x)))) args s 0 0 (q_mAd d)) (F0 m 86 ls []) := by
                intro fu
                induction fu with
                | zero => intro i86 y6_86 H locs ey6_86 hP hS hi_i86 hn_i86; exact absurd hn_i86 (by omega)
                | succ fu ih_i86 =>
                  intro i86 y6_86 H locs ey6_86 hP hS hi_i86 hn_i86 ls hl
                  subst ey6_86
                  have hD : va_D (q_mAd d) (q_mdW g d (n_len (n_pad M (ppf (m_pad M) x (v_pl V) (chN x 0 8) i86)) (v_pl V + i86))) := q_mD hJ (fun _ h => h)
                  refine lv_iload hx hb dX5_put_86 (lv_at hl 0 rfl) ?_
                  refine lv_if_lt (tgt := 129) hx hb dX5_put_88 (by decide) (fun c_88 => ?_) (fun c_88 => ?_)
                  · skip
                    have e_88 : i86 = chN x 0 8 := bp_T (by omega) hi_i86 c_88
                    rw [e_88] at hl hP
                    have hP : va_P g.1 vwCl (q_mdW g d (n_len (n_pad M (ppf (m_pad M) x (v_pl V) (chN x 0 8) (chN x 0 8))) (v_pl V + (chN x 0 8)))) H := hP
                    have hD : va_D (q_mAd d) (q_mdW g d (n_len (n_pad M (ppf (m_pad M) x (v_pl V) (chN x 0 8) (chN x 0 8))) (v_pl V + (chN x 0 8)))) := q_mD hJ (fun _ h => h)
                    refine lv_aload_n hx hb dX5_put_129 rfl (lv_at hl 3 rfl) ?_
                    refine va_get (D := g.1) (ci := 4) (v := .int (nI (v_pl V + (chN x 0 8)))) (C := RX5) (T := TX5) (N := 7) hx hb hts hi_X5 hown hK hP 0 rfl rfl 5 (by decide) fl_92 (fun _ h9 => h9) rfl dX5_put_130 ?_
                    exact q_miret hx hb hr hlk dX5_put_133 hP hS (by simp [putR, putM, putE, c_15, hnz, c_61, c_75, c_88]) (by simp [putR, putM, putE, c_15, hnz, c_61, c_75, c_88])
                  · skip
                    have lt_i86 : i86 < chN x 0 8 := bp_F (by omega) hi_i86 c_88
                    refine lv_aload_n hx hb dX5_put_91 rfl (lv_at hl 3 rfl) ?_
                    refine va_get (D := g.1) (ci := 4) (v := .ref (d 5)) (C := RX5) (T := TX5) (N := 7) hx hb hts hi_X5 hown hK hP 0 rfl rfl 4 (by decide) fl_23 (fun _ h9 => h9) rfl dX5_put_92 ?_
                    refine lv_aload_n hx hb dX5_put_95 rfl (lv_at hl 3 rfl) ?_
                    refine va_get (D := g.1) (ci := 4) (v := .int (nI (v_pl V + i86))) (C := RX5) (T := TX5) (N := 7) hx hb hts hi_X5 hown hK hP 0 rfl rfl 5 (by decide) fl_92 (fun _ h9 => h9) rfl dX5_put_96 ?_
                    refine lv_lload_n hx hb dX5_put_99 rfl (lv_at hl 4 rfl) ?_
                    refine lv_bipush (v := 8) hx hb dX5_put_100 (by decide) ?_
                    refine lv_iload hx hb dX5_put_102 (lv_at hl 0 rfl) ?_
                    refine q_reI (show (nI (chN x 0 8 - i86) - 1 : Int32) = nI (chN x 0 8 - i86 - 1) from pk_sub (b := 1) (by omega)) ?_
                    refine lv_imul hx hb dX5_put_104 ?_
                    refine q_reI (show ((8 * (nI (chN x 0 8 - i86 - 1))) : Int32) = nI (8 * (chN x 0 8 - i86 - 1)) from pk_mul _ _) ?_
                    refine lv_lushr (v := (x.toUInt64 >>> ((nI (8 * (chN x 0 8 - i86 - 1))).toInt64.toUInt64 &&& Int64.toUInt64 63)).toInt64) hx hb dX5_put_105 rfl ?_
                    refine q_reL (show (((x.toUInt64 >>> ((nI (8 * (chN x 0 8 - i86 - 1))).toInt64.toUInt64 &&& Int64.toUInt64 63)).toInt64) : Int64) = sh8 x (chN x 0 8 - i86 - 1) from sh8_at x (by omega)) ?_
                    refine lv_ldc2 (v := 255) hx hb hown (hts (.constantLong RX5 139 (255)) (by decide +kernel)) dX5_put_106 ?_
                    refine lv_land hx hb dX5_put_109 ?_
                    refine lv_l2i (v := ((sh8 x (chN x 0 8 - i86 - 1)) &&& 255).toInt32) hx hb dX5_put_110 rfl ?_
                    refine lv_i2c (v := ((((sh8 x (chN x 0 8 - i86 - 1)) &&& 255).toInt32).toUInt32 % 65536).toInt32) hx hb dX5_put_111 rfl ?_
                    refine q_reI (show ((((((sh8 x (chN x 0 8 - i86 - 1)) &&& 255).toInt32).toUInt32 % 65536).toInt32) : Int32) = (sh8 x (chN x 0 8 - i86 - 1) &&& 255).toInt32 from i2c_255 _) ?_
                    refine q_cast (j := (v_pl V + i86)) hx hb hK hP hD hS 5 3 rfl rfl (nar_255 _) (by omega) (by decide) dX5_put_112 (fun H locs hP hS => ?_)
                    have hP : va_P g.1 vwCl (q_mdW g d (n_pad (n_len (n_pad M (ppf (m_pad M) x (v_pl V) (chN x 0 8) i86)) (v_pl V + i86)) (upd (ppf (m_pad M) x (v_pl V) (chN x 0 8) i86) (v_pl V + i86) ((sh8 x (chN x 0 8 - i86 - 1) &&& 255).toInt32)))) H := hP
                    have hD : va_D (q_mAd d) (q_mdW g d (n_pad (n_len (n_pad M (ppf (m_pad M) x (v_pl V) (chN x 0 8) i86)) (v_pl V + i86)) (upd (ppf (m_pad M) x (v_pl V) (chN x 0 8) i86) (v_pl V + i86) ((sh8 x (chN x 0 8 - i86 - 1) &&& 255).toInt32)))) := q_mD hJ (fun _ h => h)
                    refine lv_aload_n hx hb dX5_put_113 rfl (lv_at hl 3 rfl) ?_
                    refine lv_dup hx hb dX5_put_114 rfl ?_
                    refine va_get (D := g.1) (ci := 4) (v := .int (nI (v_pl V + i86))) (C := RX5) (T := TX5) (N := 7) hx hb hts hi_X5 hown hK hP 0 rfl rfl 5 (by decide) fl_92 (fun _ h9 => h9) rfl dX5_put_115 ?_
                    refine lv_iconst (v := 1) hx hb dX5_put_118 (by decide) ?_
                    refine lv_iadd hx hb dX5_put_119 ?_
                    refine q_reI (show (((nI (v_pl V + i86)) + 1) : Int32) = nI (v_pl V + i86 + 1) from nI_add _ _) ?_
                    refine va_put (D := g.1) (ci := 4) (v := .int (nI (v_pl V + i86 + 1))) (ty := .int) (C := RX5) (T := TX5) (N := 7) hx hb hts hi_X5 tyX5 tyX5_ok nmX5 hown hK hP hD hS 0 rfl rfl 5 (by decide) fl_92 (fun _ h9 => h9) rfl (by decide +kernel) rfl rfl (Nat.le_of_ble_eq_true rfl) dX5_put_120 (fun H locs hP _ hS => ?_)
                    have hP : va_P g.1 vwCl (q_mdW g d (n_len (n_pad (n_len (n_pad M (ppf (m_pad M) x (v_pl V) (chN x 0 8) i86)) (v_pl V + i86)) (upd (ppf (m_pad M) x (v_pl V) (chN x 0 8) i86) (v_pl V + i86) ((sh8 x (chN x 0 8 - i86 - 1) &&& 255).toInt32))) (v_pl V + i86 + 1))) H := hP
                    have hD : va_D (q_mAd d) (q_mdW g d (n_len (n_pad (n_len (n_pad M (ppf (m_pad M) x (v_pl V) (chN x 0 8) i86)) (v_pl V + i86)) (upd (ppf (m_pad M) x (v_pl V) (chN x 0 8) i86) (v_pl V + i86) ((sh8 x (chN x 0 8 - i86 - 1) &&& 255).toInt32))) (v_pl V + i86 + 1))) := q_mD hJ (fun _ h => h)
                    refine lv_iinc (v := nI (chN x 0 8 - i86) - 1 + (-1)) (lv' := [(6, .int (nI (chN x 0 8 - i86) - 1 + (-1))), (4, .long (sh8 x (chN x 0 8))), (3, .int (nI (chN x 0 8))), (0, .ref (d 0)), (1, .long x)]) hx hb dX5_put_123 hl (k := 0) rfl (rfl) (by decide) rfl (fun ls hl => ?_)
                    refine lv_goto (tgt := 86) hx hb dX5_put_126 (by decide) ?_
                    exact ih_i86 (i86 + 1) (nI (chN x 0 8 - i86) - 1 + (-1)) _ _ (bp_S lt_i86) (by rw [← ppf_s]; exact hP) hS lt_i86 (by omega) ls (lv_sub hl [0, 1, 2, 3, 4] rfl)
              exact L_86 (chN x 0 8 + 1) 0 ((nI (chN x 0 8)) - 1) _ _ (rfl) (by rw [ppf_0, Nat.add_zero, ← hln]; exact hP) hS (Nat.zero_le _) (by omega) ls (lv_sub hl [0, 1, 2, 3, 4] rfl)
            · skip
              have c_75 : ¬ v_pl V + chN x 0 8 ≤ 80 := fun q => c_75 (nI_le (b := 80) q (by decide))
              refine lv_bipush (v := (-4)) hx hb dX5_put_78 (by decide) ?_
              exact q_miret hx hb hr hlk dX5_put_80 hP hS (by simp [putR, putM, putE, c_15, hnz, c_61, c_75]) (by simp [putR, putM, putE, c_15, hnz, c_61, c_75])
          · skip
            have hbad : chN x 0 8 = 0 := hz.trans ((nI_eq (b := 0) (by omega) (by decide)).mp c_61)
            refine lv_bipush (v := (-2)) hx hb dX5_put_64 (by decide) ?_
            exact q_miret hx hb hr hlk dX5_put_66 hP hS (by simp [putR, putM, putE, c_15, hbad, c_61]) (by simp [putR, putM, putE, c_15, hbad, c_61])
        · skip
          have c_15 := q_cmp_n c_15
          refine lv_lload hx hb dX5_put_18 (lv_at hl 0 rfl) ?_
          refine lv_ldc2 (v := 255) hx hb hown (hts (.constantLong RX5 139 (255)) (by decide +kernel)) dX5_put_20 ?_
          refine lv_land hx hb dX5_put_23 ?_
          refine lv_lstore (lv' := [(6, .long ((sh8 x i5) &&& 255)), (4, .long (sh8 x i5)), (3, .int (nI i5)), (0, .ref (d 0)), (1, .long x)]) hx hb dX5_put_24 hl (by decide) rfl (fun ls hl => ?_)
          refine lv_lload hx hb dX5_put_26 (lv_at hl 0 rfl) ?_
          refine lv_ldc2 (v := 33) hx hb hown (hts (.constantLong RX5 141 (33)) (by decide +kernel)) dX5_put_28 ?_
          refine W.lcmp hx hb dX5_put_31 ?_
          refine lv_if_lt (tgt := 44) hx hb dX5_put_32 (by decide) (fun c_32 => ?_) (fun c_32 => ?_)
          · skip
            have hbad : chN x 0 8 = 0 := by rw [← hf, show 8 - i5 = (8 - (i5 + 1)) + 1 from by omega, ch_b c_15 (ch_lt c_32)]
            refine lv_bipush (v := (-2)) hx hb dX5_put_44 (by decide) ?_
            exact q_miret hx hb hr hlk dX5_put_46 hP hS (by simp [putR, putM, putE, c_15, hbad, c_32]) (by simp [putR, putM, putE, c_15, hbad, c_32])
          · skip
            refine lv_lload hx hb dX5_put_35 (lv_at hl 0 rfl) ?_
            refine lv_ldc2 (v := 126) hx hb hown (hts (.constantLong RX5 143 (126)) (by decide +kernel)) dX5_put_37 ?_
            refine W.lcmp hx hb dX5_put_40 ?_
            refine lv_if_le (tgt := 47) hx hb dX5_put_41 (by decide) (fun c_41 => ?_) (fun c_41 => ?_)
            · skip
              refine lv_lload hx hb dX5_put_47 (lv_at hl 1 rfl) ?_
              refine lv_bipush (v := 8) hx hb dX5_put_49 (by decide) ?_
              refine lv_lushr (v := ((sh8 x i5).toUInt64 >>> ((8 : Int32).toInt64.toUInt64 &&& Int64.toUInt64 63)).toInt64) hx hb dX5_put_51 rfl ?_
              refine lv_lstore (lv' := [(4, .long (((sh8 x i5).toUInt64 >>> ((8 : Int32).toInt64.toUInt64 &&& Int64.toUInt64 63)).toInt64)), (6, .long ((sh8 x i5) &&& 255)), (3, .int (nI i5)), (0, .ref (d 0)), (1, .long x)]) hx hb dX5_put_52 hl (by decide) rfl (fun ls hl => ?_)
              refine lv_iinc (v := nI (i5 + 1)) (lv' := [(3, .int (nI (i5 + 1))), (4, .long (((sh8 x i5).toUInt64 >>> ((8 : Int32).toInt64.toUInt64 &&& Int64.toUInt64 63)).toInt64)), (6, .long ((sh8 x i5) &&& 255)), (0, .ref (d 0)), (1, .long x)]) hx hb dX5_put_54 hl (k := 2) rfl (nI_1 _) (by decide) rfl (fun ls hl => ?_)
              refine lv_goto (tgt := 5) hx hb dX5_put_57 (by decide) ?_
              exact ih_i5 (i5 + 1) (((sh8 x i5).toUInt64 >>> ((8 : Int32).toInt64.toUInt64 &&& Int64.toUInt64 63)).toInt64) (rfl) (by rw [← hf, show 8 - i5 = (8 - (i5 + 1)) + 1 from by omega, ch_s c_15 (ch_yes c_32 c_41)]) lt_i5 (by omega) ls (lv_sub hl [1, 0, 3, 4] rfl)
            · skip
              have hbad : chN x 0 8 = 0 := by rw [← hf, show 8 - i5 = (8 - (i5 + 1)) + 1 from by omega, ch_b c_15 (ch_gt c_41)]
              refine lv_bipush (v := (-2)) hx hb dX5_put_44 (by decide) ?_
              exact q_miret hx hb hr hlk dX5_put_46 hP hS (by simp [putR, putM, putE, c_15, c_32, hbad, c_41]) (by simp [putR, putM, putE, c_15, c_32, hbad, c_41])
  exact L_5 (8 + 1) 0 x (rfl) (rfl) (Nat.zero_le _) (by omega) ls (lv_sub hl [0, 1, 2, 3] rfl)
