/-! characters laid behind those of the pad, from the last one on -/
def apf (C : Nat → Int32) (x : Int64) (n : Nat) (i : Nat) : Nat → Int32 := fun p => if n - i ≤ p ∧ p < n then (sh8 x (n - 1 - p) &&& 255).toInt32 else C p
theorem apf_0 (C : Nat → Int32) (x : Int64) (n : Nat) : apf C x n 0 = C := by
  funext p
  unfold apf
  rw [if_neg (by omega)]
theorem apf_s (C : Nat → Int32) (x : Int64) (n i : Nat) (h : i < n) : upd (apf C x n i) (n - i - 1) (sh8 x i &&& 255).toInt32 = apf C x n (i + 1) := by
  funext p
  unfold upd apf
  by_cases c : p = n - i - 1
  · rw [if_pos c, if_pos (by omega), c, show n - 1 - (n - i - 1) = i from by omega]
  · rw [if_neg c]
    by_cases d : n - i ≤ p ∧ p < n
    · rw [if_pos d, if_pos (by omega)]
    · rw [if_neg d, if_neg (by omega)]
theorem ap_T {n k i : Nat} (h : n + k < 2 ^ 30) (hi : i ≤ k) (c : nI (n + k - i) - 1 < nI n) : i = k := by
  rcases Nat.lt_or_ge i k with q | q
  · rw [show nI (n + k - i) - 1 = nI (n + k - i - 1) from pk_sub (b := 1) (by omega)] at c
    have := (nI_ltI (by omega) (by omega)).mp c
    omega
  · omega
theorem ap_F {n k i : Nat} (h : n + k < 2 ^ 30) (hi : i ≤ k) (c : ¬ nI (n + k - i) - 1 < nI n) : i < k := by
  rcases Nat.lt_or_ge i k with q | q
  · exact q
  · refine absurd ?_ c
    rw [show n + k - i = n from by omega, Int32.lt_iff_toInt_lt, show nI n - 1 = nI n - nI 1 from rfl, pk_sub_toInt (by omega) (by decide), nI_toInt (by omega)]
    omega
theorem ap_N {m : Nat} (h : m < 2 ^ 30) (h1 : 1 ≤ m) : ¬ nI m - 1 < 0 := by
  rw [show nI m - 1 = nI (m - 1) from pk_sub (b := 1) h1]
  exact nI_pos (by omega)
theorem ap_S {m k i : Nat} (h : i < k) : nI (m + k - i) - 1 + (-1) = nI (m + k - (i + 1)) - 1 := by
  have h2 : nI (m + k - i) = nI (m + k - (i + 1)) + 1 := by rw [nI_1]; congr 1; omega
  rw [h2]
  generalize nI (m + k - (i + 1)) = z
  rw [Int32.add_sub_cancel, Int32.sub_eq_add_neg]
def v_appk (V : q_CV) (x : Int64) (k : Nat) : q_CV := w_pl (w_pc V (apf (v_pc V) x (v_pl V + k) k)) (v_pl V + k)
def v_apk (V : q_CV) (x : Int64) (k : Nat) : q_CV := if v_pl V + k ≤ 80 then v_appk V x k else V

set_option maxHeartbeats 2000000 in
set_option maxRecDepth 100000 in
theorem c_X1_append (l : Launch) (g : q_G) (a : Nat → Nat → Nat) (b : Nat → Nat) (V : q_CV) (hI : q_inj a b) (x : Int64) (k : Nat) (h1_ : v_pl V ≤ 80) (h2_ : k ≤ 8) : Met l yX1_append wsX1_append { frames := 0, cells := 0, slots := 0, locals := 0 } (va_Pc [.ref (b 1), .long x, .int (nI k)] (q_B g (q_pqW g a b V))) (q_QM g (q_adr a b) (q_pqW g a b (v_apk V x k)) (some (.int (bI (decide (v_pl V + k ≤ 80)))))) 0 0 (q_adr a b) := by
  refine q_mm (cc := cX1_append) (maxL := 8) (ret := (some .boolean)) (by decide) rfl (Nat.le_of_ble_eq_true rfl) ?_
  intro p e s m args below meth c ls hx hb hml hown hts hr hlk hnm hB hag hl
  obtain ⟨hP, hK, hN⟩ := hB
  have hS : va_S (q_adr a b) s.heap s.heap [] := va_S.rf
  have hP : va_P g.1 vwCl (q_pqW g a b V) s.heap := hP
  have hD : va_D (q_adr a b) (q_pqW g a b V) := q_D hI (fun _ h => h)
  have fl_11 := hts (.fieldLink RX1 11 "PubQuizzes$Pad" "codes" "[I") (by decide +kernel)
  have fl_17 := hts (.fieldLink RX1 17 "PubQuizzes$Pad" "length" "I") (by decide +kernel)
  have hi_X1 : ∀ w ∈ u_ws RX1 TX1 2, w ∈ wsX1_append := by decide +kernel
  have hl : lv_has ls 8 [(0, .ref (b 1)), (1, .long x), (3, .int (nI k))] := hl
  refine lv_aload_n hx hb dX1_append_0 rfl (lv_at hl 0 rfl) ?_
  refine va_get (D := g.1) (ci := 1) (v := .int (nI (v_pl V))) (C := RX1) (T := TX1) (N := 2) hx hb hts hi_X1 hown hK hP 1 rfl rfl 1 (by decide) fl_17 (fun _ h9 => h9) rfl dX1_append_1 ?_
  refine lv_iload_n hx hb dX1_append_4 rfl (lv_at hl 2 rfl) ?_
  refine lv_iadd hx hb dX1_append_5 ?_
  refine q_reI (show (((nI (v_pl V)) + (nI k)) : Int32) = nI (v_pl V + k) from nI_add _ _) ?_
  refine lv_istore (lv' := [(4, .int (nI (v_pl V + k))), (0, .ref (b 1)), (1, .long x), (3, .int (nI k))]) hx hb dX1_append_6 hl (by decide) rfl (fun ls hl => ?_)
  refine lv_iload hx hb dX1_append_8 (lv_at hl 0 rfl) ?_
  refine lv_bipush (v := 80) hx hb dX1_append_10 (by decide) ?_
  refine lv_icmp_le (tgt := 17) hx hb dX1_append_12 (by decide) (fun c_12 => ?_) (fun c_12 => ?_)
  · skip
    have c_12 : v_pl V + k ≤ 80 := (nI_leI (b := 80) (by omega) (by decide)).mp c_12
    refine lv_lload_n hx hb dX1_append_17 rfl (lv_at hl 2 rfl) ?_
    refine lv_lstore (lv' := [(5, .long x), (4, .int (nI (v_pl V + k))), (0, .ref (b 1)), (1, .long x), (3, .int (nI k))]) hx hb dX1_append_18 hl (by decide) rfl (fun ls hl => ?_)
    refine lv_iload hx hb dX1_append_20 (lv_at hl 1 rfl) ?_
    refine lv_iconst (v := 1) hx hb dX1_append_22 (by decide) ?_
    refine lv_isub hx hb dX1_append_23 ?_
    refine lv_istore (lv' := [(7, .int ((nI (v_pl V + k)) - 1)), (5, .long x), (4, .int (nI (v_pl V + k))), (0, .ref (b 1)), (1, .long x), (3, .int (nI k))]) hx hb dX1_append_24 hl (by decide) rfl (fun ls hl => ?_)
    have L_26 : ∀ (fu i26 : Nat) (y7_26 : Int32) (y5_26 : Int64) (H : Heap) (locs : List Loc), y7_26 = nI (v_pl V + k - i26) - 1 → y5_26 = sh8 x i26 → va_P g.1 vwCl (q_pqW g a b (w_pc V (apf (v_pc V) x (v_pl V + k) i26))) H → va_S (q_adr a b) s.heap H locs → i26 ≤ k → k < i26 + fu → ∀ ls : Array Slot, lv_has ls 8 [(7, .int y7_26), (5, .long y5_26), (4, .int (nI (v_pl V + k))), (0, .ref (b 1)), (1, .long x), (3, .int (nI k))] → W p l e { frames := 0, cells := 0, slots := 0, locals := 0 } s m args below meth c H locs 0 0 (MQ below (q_QM g (q_adr a b) (q_pqW g a b (v_apk V x k)) (some (.int (bI (decide (v_pl V + k ≤ 80)))))) args s 0 0 (q_adr a b)) (F0 m 26 ls []) := by
      intro fu
      induction fu with
      | zero => intro i26 y7_26 y5_26 H locs ey7_26 ey5_26 hP hS hi_i26 hn_i26; exact absurd hn_i26 (by omega)
      | succ fu ih_i26 =>
        intro i26 y7_26 y5_26 H locs ey7_26 ey5_26 hP hS hi_i26 hn_i26 ls hl
        subst ey7_26
        subst ey5_26
        have hD : va_D (q_adr a b) (q_pqW g a b (w_pc V (apf (v_pc V) x (v_pl V + k) i26))) := q_D hI (fun _ h => h)
        refine lv_iload hx hb dX1_append_26 (lv_at hl 0 rfl) ?_
        refine lv_aload_n hx hb dX1_append_28 rfl (lv_at hl 3 rfl) ?_
        refine va_get (D := g.1) (ci := 1) (v := .int (nI (v_pl V))) (C := RX1) (T := TX1) (N := 2) hx hb hts hi_X1 hown hK hP 1 rfl rfl 1 (by decide) fl_17 (fun _ h9 => h9) rfl dX1_append_29 ?_
        refine lv_icmp_lt (tgt := 67) hx hb dX1_append_32 (by decide) (fun c_32 => ?_) (fun c_32 => ?_)
        · skip
          have e_32 : i26 = k := ap_T (by omega) hi_i26 c_32
          rw [e_32] at hl hP
          have hP : va_P g.1 vwCl (q_pqW g a b (w_pc V (apf (v_pc V) x (v_pl V + k) (k)))) H := hP
          have hD : va_D (q_adr a b) (q_pqW g a b (w_pc V (apf (v_pc V) x (v_pl V + k) (k)))) := q_D hI (fun _ h => h)
          refine lv_aload_n hx hb dX1_append_67 rfl (lv_at hl 3 rfl) ?_
          refine lv_iload hx hb dX1_append_68 (lv_at hl 2 rfl) ?_
          refine va_put (D := g.1) (ci := 1) (v := .int (nI (v_pl V + k))) (ty := .int) (C := RX1) (T := TX1) (N := 2) hx hb hts hi_X1 tyX1 tyX1_ok nmX1 hown hK hP hD hS 1 rfl rfl 1 (by decide) fl_17 (fun _ h9 => h9) rfl (by decide +kernel) rfl rfl (Nat.le_of_ble_eq_true rfl) dX1_append_70 (fun H locs hP _ hS => ?_)
          have hP : va_P g.1 vwCl (q_pqW g a b (w_pl (w_pc V (apf (v_pc V) x (v_pl V + k) (k))) (v_pl V + k))) H := hP
          have hD : va_D (q_adr a b) (q_pqW g a b (w_pl (w_pc V (apf (v_pc V) x (v_pl V + k) (k))) (v_pl V + k))) := q_D hI (fun _ h => h)
          refine lv_iconst (v := 1) hx hb dX1_append_73 (by decide) ?_
          exact q_mzret hx hb hr hlk dX1_append_74 hP hS (by rw [decide_eq_true c_12]; rfl) (by rw [v_apk, if_pos c_12]; rfl)
        · skip
          have lt_i26 : i26 < k := ap_F (by omega) hi_i26 c_32
          refine lv_iload hx hb dX1_append_35 (lv_at hl 0 rfl) ?_
          refine lv_if_lt (tgt := 67) hx hb dX1_append_37 (by decide) (fun c_37 => ?_) (fun c_37 => ?_)
          · skip
            exact absurd c_37 (ap_N (by omega) (by omega))
          · skip
            refine lv_aload_n hx hb dX1_append_40 rfl (lv_at hl 3 rfl) ?_
            refine va_get (D := g.1) (ci := 1) (v := .ref (b 2)) (C := RX1) (T := TX1) (N := 2) hx hb hts hi_X1 hown hK hP 1 rfl rfl 0 (by decide) fl_11 (fun _ h9 => h9) rfl dX1_append_41 ?_
            refine lv_iload hx hb dX1_append_44 (lv_at hl 0 rfl) ?_
            refine q_reI (show (nI (v_pl V + k - i26) - 1 : Int32) = nI (v_pl V + k - i26 - 1) from pk_sub (b := 1) (by omega)) ?_
            refine lv_lload hx hb dX1_append_46 (lv_at hl 1 rfl) ?_
            refine lv_ldc2 (v := 255) hx hb hown (hts (.constantLong RX1 15 (255)) (by decide +kernel)) dX1_append_48 ?_
            refine lv_land hx hb dX1_append_51 ?_
            refine lv_l2i (v := ((sh8 x i26) &&& 255).toInt32) hx hb dX1_append_52 rfl ?_
            refine q_iast (j := (v_pl V + k - i26 - 1)) hx hb hK hP hD hS 2 0 rfl rfl (by omega) (by decide) dX1_append_53 (fun H locs hP hS => ?_)
            have hP : va_P g.1 vwCl (q_pqW g a b (w_pc (w_pc V (apf (v_pc V) x (v_pl V + k) i26)) (upd (apf (v_pc V) x (v_pl V + k) i26) (v_pl V + k - i26 - 1) (((sh8 x i26) &&& 255).toInt32)))) H := hP
            have hD : va_D (q_adr a b) (q_pqW g a b (w_pc (w_pc V (apf (v_pc V) x (v_pl V + k) i26)) (upd (apf (v_pc V) x (v_pl V + k) i26) (v_pl V + k - i26 - 1) (((sh8 x i26) &&& 255).toInt32)))) := q_D hI (fun _ h => h)
            refine lv_lload hx hb dX1_append_54 (lv_at hl 1 rfl) ?_
            refine lv_bipush (v := 8) hx hb dX1_append_56 (by decide) ?_
            refine lv_lushr (v := ((sh8 x i26).toUInt64 >>> ((8 : Int32).toInt64.toUInt64 &&& Int64.toUInt64 63)).toInt64) hx hb dX1_append_58 rfl ?_
            refine lv_lstore (lv' := [(5, .long (((sh8 x i26).toUInt64 >>> ((8 : Int32).toInt64.toUInt64 &&& Int64.toUInt64 63)).toInt64)), (7, .int (nI (v_pl V + k - i26) - 1)), (4, .int (nI (v_pl V + k))), (0, .ref (b 1)), (1, .long x), (3, .int (nI k))]) hx hb dX1_append_59 hl (by decide) rfl (fun ls hl => ?_)
            refine lv_iinc (v := nI (v_pl V + k - i26) - 1 + (-1)) (lv' := [(7, .int (nI (v_pl V + k - i26) - 1 + (-1))), (5, .long (((sh8 x i26).toUInt64 >>> ((8 : Int32).toInt64.toUInt64 &&& Int64.toUInt64 63)).toInt64)), (4, .int (nI (v_pl V + k))), (0, .ref (b 1)), (1, .long x), (3, .int (nI k))]) hx hb dX1_append_61 hl (k := 1) rfl (rfl) (by decide) rfl (fun ls hl => ?_)
            refine lv_goto (tgt := 26) hx hb dX1_append_64 (by decide) ?_
            exact ih_i26 (i26 + 1) (nI (v_pl V + k - i26) - 1 + (-1)) (((sh8 x i26).toUInt64 >>> ((8 : Int32).toInt64.toUInt64 &&& Int64.toUInt64 63)).toInt64) _ _ (ap_S lt_i26) (rfl) (by rw [← apf_s _ _ _ _ (by omega)]; exact hP) hS lt_i26 (by omega) ls (lv_sub hl [0, 1, 2, 3, 4, 5] rfl)
    exact L_26 (k + 1) 0 ((nI (v_pl V + k)) - 1) x _ _ (rfl) (rfl) (by rw [apf_0]; exact hP) hS (Nat.zero_le _) (by omega) ls (lv_sub hl [0, 1, 2, 3, 4, 5] rfl)
  · skip
    have c_12 : ¬ v_pl V + k ≤ 80 := fun q => c_12 (nI_le (b := 80) q (by decide))
    refine lv_iconst (v := 0) hx hb dX1_append_15 (by decide) ?_
    exact q_mzret hx hb hr hlk dX1_append_16 hP hS (by rw [decide_eq_false c_12]; rfl) (by rw [v_apk, if_neg c_12])
