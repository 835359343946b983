/-! the reference's calls that write, on -/
theorem set_x {x : Int32} (h0 : ¬ x = 0) (h1 : ¬ x = 1) (h2 : ¬ x = 2) (h3 : ¬ x = 3) : x < 0 ∨ 3 < x := by
  by_cases q : x < 0
  · exact Or.inl q
  · obtain ⟨n, hn, rfl⟩ := nI_of q
    refine Or.inr (Int32.not_le.mp fun z => ?_)
    have k := (nI_leI (b := 3) hn (by decide)).mp z
    match n, k with
    | 0, _ => exact h0 rfl
    | 1, _ => exact h1 rfl
    | 2, _ => exact h2 rfl
    | 3, _ => exact h3 rfl
def setM (M : q_MV) (V : q_CV) (x y : Int32) : q_MV := if setE x y = 0 then n_s (m_rec M) (upd (m_s (m_rec M)) (tN x) y) else M

set_option maxHeartbeats 2000000 in
set_option maxRecDepth 100000 in
theorem c_X5_set (l : Launch) (g : q_G) (d : Nat → Nat) (M : q_MV) (hJ : q_mInj d) (V : q_CV) (K : Nat) (hc : q_cp (v_now V) (m_s M)) (ho : q_ok K (v_now V)) (hK5 : K ≤ 512) (x : Int32) (y : Int32) (h1_ : m_st M ≤ 6) : Met l yX5_set wsX5_set { frames := 1, cells := 0, slots := 0, locals := 22 } (va_Pc [.ref (d 0), .int x, .int y] (q_B g (q_mdW g d M))) (q_QM g (q_mAd d) (q_mdW g d (setM M V x y)) (some (.int (setR V x y)))) 0 0 (q_mAd d) := by
  refine q_mm (cc := cX5_set) (maxL := 5) (ret := (some .int)) (by decide) rfl (Nat.le_of_ble_eq_true rfl) ?_
  intro p e s m args below meth c ls hx hb hml hown hts hr hlk hnm hB hag hl
  obtain ⟨hP, hK, hN⟩ := hB
  have hS : va_S (q_mAd d) s.heap s.heap [] := va_S.rf
  have hP : va_P g.1 vwCl (q_mdW g d M) s.heap := hP
  have hD : va_D (q_mAd d) (q_mdW g d M) := q_mD hJ (fun _ h => h)
  have fl_7 := hts (.fieldLink RX5 7 "PubQuizzesModel" "s" "[I") (by decide +kernel)
  have hi_X5 : ∀ w ∈ u_ws RX5 TX5 7, w ∈ wsX5_set := by decide +kernel
  have hl : lv_has ls 5 [(0, .ref (d 0)), (1, .int x), (2, .int y)] := hl
  have hn10 := ok_n ho
  refine lv_iload_n hx hb dX5_set_0 rfl (lv_at hl 1 rfl) ?_
  refine lv_if_ne (tgt := 14) hx hb dX5_set_1 (by decide) (fun c_1 => ?_) (fun c_1 => ?_)
  · skip
    refine lv_iload_n hx hb dX5_set_14 rfl (lv_at hl 1 rfl) ?_
    refine lv_iconst (v := 1) hx hb dX5_set_15 (by decide) ?_
    refine lv_icmp_ne (tgt := 29) hx hb dX5_set_16 (by decide) (fun c_16 => ?_) (fun c_16 => ?_)
    · skip
      refine lv_iload_n hx hb dX5_set_29 rfl (lv_at hl 1 rfl) ?_
      refine lv_iconst (v := 2) hx hb dX5_set_30 (by decide) ?_
      refine lv_icmp_ne (tgt := 43) hx hb dX5_set_31 (by decide) (fun c_31 => ?_) (fun c_31 => ?_)
      · skip
        refine lv_iload_n hx hb dX5_set_43 rfl (lv_at hl 1 rfl) ?_
        refine lv_iconst (v := 3) hx hb dX5_set_44 (by decide) ?_
        refine lv_icmp_ne (tgt := 62) hx hb dX5_set_45 (by decide) (fun c_45 => ?_) (fun c_45 => ?_)
        · skip
          refine lv_iconst (v := 0) hx hb dX5_set_62 (by decide) ?_
          refine lv_istore_n (lv' := [(3, .int 0), (0, .ref (d 0)), (1, .int x), (2, .int y)]) hx hb dX5_set_63 rfl hl (by decide) rfl (fun ls hl => ?_)
          refine lv_iload_n hx hb dX5_set_64 rfl (lv_at hl 0 rfl) ?_
          refine lv_if_ne (tgt := 71) hx hb dX5_set_65 (by decide) (fun c_65 => ?_) (fun c_65 => ?_)
          · skip
            exact absurd c_65 (by decide)
          · skip
            refine lv_bipush (v := (-2)) hx hb dX5_set_68 (by decide) ?_
            exact q_miret hx hb hr hlk dX5_set_70 hP hS (by first | (rcases hq with q | q <;> simp [setR, setE, leaS, graS, q, c_1, c_16, c_31, c_45]; done) | (rcases set_x c_1 c_16 c_31 c_45 with q | q <;> simp [setR, setE, q, c_1, c_16, c_31, c_45]; done)) (by first | (rcases hq with q | q <;> simp [setM, setE, leaS, graS, q, c_1, c_16, c_31, c_45]; done) | (rcases set_x c_1 c_16 c_31 c_45 with q | q <;> simp [setM, setE, q, c_1, c_16, c_31, c_45]; done))
        · skip
          have q3 : x = 3 := c_45
          subst q3
          have k3 : tN 3 = 3 := rfl
          refine lv_iload_n hx hb dX5_set_48 rfl (lv_at hl 2 rfl) ?_
          refine lv_iconst (v := 0) hx hb dX5_set_49 (by decide) ?_
          refine lv_bipush (v := 9) hx hb dX5_set_50 (by decide) ?_
          refine q_S (As := [.int y, .int 0, .int 9]) (rest := []) ⟨hx, hb, hml, hown, hts⟩ (c_X5_in l y 0 9 ) (va_cwS 3 hts gX5_set_X5_in rfl rfl rfl (by decide +kernel) ⟨Nat.le_of_ble_eq_true rfl, Nat.le_of_ble_eq_true rfl⟩) q_Blind_t (fun _ _ _ => trivial) rfl hl.1 rfl (Nat.le_of_ble_eq_true rfl) dX5_set_52 (Nat.zero_le _) (Nat.zero_le _) ?_
          refine lv_if_eq (tgt := 62) hx hb dX5_set_55 (by decide) (fun c_55 => ?_) (fun c_55 => ?_)
          · skip
            have c_55 : (inR y 0 9) = false := bI_eq c_55
            have hq := inR_f c_55
            refine lv_iconst (v := 0) hx hb dX5_set_62 (by decide) ?_
            refine lv_istore_n (lv' := [(3, .int 0), (0, .ref (d 0)), (1, .int (3)), (2, .int y)]) hx hb dX5_set_63 rfl hl (by decide) rfl (fun ls hl => ?_)
            refine lv_iload_n hx hb dX5_set_64 rfl (lv_at hl 0 rfl) ?_
            refine lv_if_ne (tgt := 71) hx hb dX5_set_65 (by decide) (fun c_65 => ?_) (fun c_65 => ?_)
            · skip
              exact absurd c_65 (by decide)
            · skip
              refine lv_bipush (v := (-2)) hx hb dX5_set_68 (by decide) ?_
              exact q_miret hx hb hr hlk dX5_set_70 hP hS (by first | (rcases hq with q | q <;> simp [setR, setE, leaS, graS, q, c_1, c_16, c_31, k3, c_45, c_55]; done) | (rcases set_x c_1 c_16 c_31 c_45 with q | q <;> simp [setR, setE, q, c_1, c_16, c_31, k3, c_45, c_55]; done)) (by first | (rcases hq with q | q <;> simp [setM, setE, leaS, graS, q, c_1, c_16, c_31, k3, c_45, c_55]; done) | (rcases set_x c_1 c_16 c_31 c_45 with q | q <;> simp [setM, setE, q, c_1, c_16, c_31, k3, c_45, c_55]; done))
          · skip
            have c_55 : (inR y 0 9) = true := bI_ne c_55
            have ey1 := (inR_t c_55).1
            have ey2 := (inR_t c_55).2
            refine lv_iconst (v := 1) hx hb dX5_set_58 (by decide) ?_
            refine lv_goto (tgt := 63) hx hb dX5_set_59 (by decide) ?_
            refine lv_istore_n (lv' := [(3, .int 1), (0, .ref (d 0)), (1, .int (3)), (2, .int y)]) hx hb dX5_set_63 rfl hl (by decide) rfl (fun ls hl => ?_)
            refine lv_iload_n hx hb dX5_set_64 rfl (lv_at hl 0 rfl) ?_
            refine lv_if_ne (tgt := 71) hx hb dX5_set_65 (by decide) (fun c_65 => ?_) (fun c_65 => ?_)
            · skip
              refine lv_aload_n hx hb dX5_set_71 rfl (lv_at hl 1 rfl) ?_
              refine q_VM (As := []) (rest := []) (st2 := []) ⟨hx, hb, hml, hown, hts⟩ (c_X5_record l g d M hJ  (by first | omega | assumption)) (cwV 0 hts gX5_set_X5_record rfl rfl rfl (by decide +kernel) ⟨Nat.le_of_ble_eq_true rfl, Nat.le_of_ble_eq_true rfl⟩) q_B_blind (va_recv hK hP (ci := 4) (q0 := 0) rfl rfl) (q_B_of hP hK hN) rfl hl.1 rfl (Nat.le_of_ble_eq_true rfl) dX5_set_72 (Nat.zero_le _) (Nat.zero_le _) hS (fun _ h => h) rfl rfl rfl (fun H locs hP _ hS _ => ?_)
              have hP : va_P g.1 vwCl (q_mdW g d (m_rec M)) H := hP
              have hD : va_D (q_mAd d) (q_mdW g d (m_rec M)) := q_mD hJ (fun _ h => h)
              have hc : q_cp (v_now V) (m_s (m_rec M)) := by rw [m_recs]; exact hc
              refine lv_aload_n hx hb dX5_set_75 rfl (lv_at hl 1 rfl) ?_
              refine va_get (D := g.1) (ci := 4) (v := .ref (d 1)) (C := RX5) (T := TX5) (N := 7) hx hb hts hi_X5 hown hK hP 0 rfl rfl 0 (by decide) fl_7 (fun _ h9 => h9) rfl dX5_set_76 ?_
              refine lv_iload_n hx hb dX5_set_79 rfl (lv_at hl 2 rfl) ?_
              refine q_iald (j := 3) hx hb hK hP 1 0 rfl rfl (by omega) (by decide) dX5_set_80 ?_
              refine q_reI (show (m_s (m_rec M) 3 : Int32) = s_set (v_now V) 3 from cp_set hc (k := 3) (by omega)) ?_
              refine lv_istore (lv' := [(4, .int (s_set (v_now V) 3)), (3, .int 1), (0, .ref (d 0)), (1, .int (3)), (2, .int y)]) hx hb dX5_set_81 hl (by decide) rfl (fun ls hl => ?_)
              refine lv_aload_n hx hb dX5_set_83 rfl (lv_at hl 2 rfl) ?_
              refine va_get (D := g.1) (ci := 4) (v := .ref (d 1)) (C := RX5) (T := TX5) (N := 7) hx hb hts hi_X5 hown hK hP 0 rfl rfl 0 (by decide) fl_7 (fun _ h9 => h9) rfl dX5_set_84 ?_
              refine lv_iload_n hx hb dX5_set_87 rfl (lv_at hl 3 rfl) ?_
              refine lv_iload_n hx hb dX5_set_88 rfl (lv_at hl 4 rfl) ?_
              refine q_iast (j := 3) hx hb hK hP hD hS 1 0 rfl rfl (by omega) (by decide) dX5_set_89 (fun H locs hP hS => ?_)
              have hP : va_P g.1 vwCl (q_mdW g d (n_s (m_rec M) (upd (m_s (m_rec M)) 3 y))) H := hP
              have hD : va_D (q_mAd d) (q_mdW g d (n_s (m_rec M) (upd (m_s (m_rec M)) 3 y))) := q_mD hJ (fun _ h => h)
              refine lv_iload hx hb dX5_set_90 (lv_at hl 0 rfl) ?_
              exact q_miret hx hb hr hlk dX5_set_92 hP hS (by simp [setR, setM, setE, leaS, graS, c_1, c_16, c_31, k3, c_45, ey1, ey2, c_55]) (by simp [setR, setM, setE, leaS, graS, c_1, c_16, c_31, k3, c_45, ey1, ey2, c_55])
            · skip
              exact absurd c_65 (by decide)
      · skip
        have q2 : x = 2 := c_31
        subst q2
        have k2 : tN 2 = 2 := rfl
        refine lv_iload_n hx hb dX5_set_34 rfl (lv_at hl 2 rfl) ?_
        refine lv_iconst (v := 0) hx hb dX5_set_35 (by decide) ?_
        refine lv_iconst (v := 2) hx hb dX5_set_36 (by decide) ?_
        refine q_S (As := [.int y, .int 0, .int 2]) (rest := []) ⟨hx, hb, hml, hown, hts⟩ (c_X5_in l y 0 2 ) (va_cwS 3 hts gX5_set_X5_in rfl rfl rfl (by decide +kernel) ⟨Nat.le_of_ble_eq_true rfl, Nat.le_of_ble_eq_true rfl⟩) q_Blind_t (fun _ _ _ => trivial) rfl hl.1 rfl (Nat.le_of_ble_eq_true rfl) dX5_set_37 (Nat.zero_le _) (Nat.zero_le _) ?_
        refine lv_goto (tgt := 63) hx hb dX5_set_40 (by decide) ?_
        refine lv_istore_n (lv' := [(3, .int (bI (inR y 0 2))), (0, .ref (d 0)), (1, .int (2)), (2, .int y)]) hx hb dX5_set_63 rfl hl (by decide) rfl (fun ls hl => ?_)
        refine lv_iload_n hx hb dX5_set_64 rfl (lv_at hl 0 rfl) ?_
        refine lv_if_ne (tgt := 71) hx hb dX5_set_65 (by decide) (fun c_65 => ?_) (fun c_65 => ?_)
        · skip
          have c_65 : (inR y 0 2) = true := bI_ne c_65
          have ey1 := (inR_t c_65).1
          have ey2 := (inR_t c_65).2
          refine lv_aload_n hx hb dX5_set_71 rfl (lv_at hl 1 rfl) ?_
          refine q_VM (As := []) (rest := []) (st2 := []) ⟨hx, hb, hml, hown, hts⟩ (c_X5_record l g d M hJ  (by first | omega | assumption)) (cwV 0 hts gX5_set_X5_record rfl rfl rfl (by decide +kernel) ⟨Nat.le_of_ble_eq_true rfl, Nat.le_of_ble_eq_true rfl⟩) q_B_blind (va_recv hK hP (ci := 4) (q0 := 0) rfl rfl) (q_B_of hP hK hN) rfl hl.1 rfl (Nat.le_of_ble_eq_true rfl) dX5_set_72 (Nat.zero_le _) (Nat.zero_le _) hS (fun _ h => h) rfl rfl rfl (fun H locs hP _ hS _ => ?_)
          have hP : va_P g.1 vwCl (q_mdW g d (m_rec M)) H := hP
          have hD : va_D (q_mAd d) (q_mdW g d (m_rec M)) := q_mD hJ (fun _ h => h)
          have hc : q_cp (v_now V) (m_s (m_rec M)) := by rw [m_recs]; exact hc
          refine lv_aload_n hx hb dX5_set_75 rfl (lv_at hl 1 rfl) ?_
          refine va_get (D := g.1) (ci := 4) (v := .ref (d 1)) (C := RX5) (T := TX5) (N := 7) hx hb hts hi_X5 hown hK hP 0 rfl rfl 0 (by decide) fl_7 (fun _ h9 => h9) rfl dX5_set_76 ?_
          refine lv_iload_n hx hb dX5_set_79 rfl (lv_at hl 2 rfl) ?_
          refine q_iald (j := 2) hx hb hK hP 1 0 rfl rfl (by omega) (by decide) dX5_set_80 ?_
          refine q_reI (show (m_s (m_rec M) 2 : Int32) = s_set (v_now V) 2 from cp_set hc (k := 2) (by omega)) ?_
          refine lv_istore (lv' := [(4, .int (s_set (v_now V) 2)), (3, .int (bI (inR y 0 2))), (0, .ref (d 0)), (1, .int (2)), (2, .int y)]) hx hb dX5_set_81 hl (by decide) rfl (fun ls hl => ?_)
          refine lv_aload_n hx hb dX5_set_83 rfl (lv_at hl 2 rfl) ?_
          refine va_get (D := g.1) (ci := 4) (v := .ref (d 1)) (C := RX5) (T := TX5) (N := 7) hx hb hts hi_X5 hown hK hP 0 rfl rfl 0 (by decide) fl_7 (fun _ h9 => h9) rfl dX5_set_84 ?_
          refine lv_iload_n hx hb dX5_set_87 rfl (lv_at hl 3 rfl) ?_
          refine lv_iload_n hx hb dX5_set_88 rfl (lv_at hl 4 rfl) ?_
          refine q_iast (j := 2) hx hb hK hP hD hS 1 0 rfl rfl (by omega) (by decide) dX5_set_89 (fun H locs hP hS => ?_)
          have hP : va_P g.1 vwCl (q_mdW g d (n_s (m_rec M) (upd (m_s (m_rec M)) 2 y))) H := hP
          have hD : va_D (q_mAd d) (q_mdW g d (n_s (m_rec M) (upd (m_s (m_rec M)) 2 y))) := q_mD hJ (fun _ h => h)
          refine lv_iload hx hb dX5_set_90 (lv_at hl 0 rfl) ?_
          exact q_miret hx hb hr hlk dX5_set_92 hP hS (by simp [setR, setM, setE, leaS, graS, c_1, c_16, k2, c_31, ey1, ey2, c_65]) (by simp [setR, setM, setE, leaS, graS, c_1, c_16, k2, c_31, ey1, ey2, c_65])
        · skip
          have c_65 : (inR y 0 2) = false := bI_eq c_65
          have hq := inR_f c_65
          refine lv_bipush (v := (-2)) hx hb dX5_set_68 (by decide) ?_
          exact q_miret hx hb hr hlk dX5_set_70 hP hS (by first | (rcases hq with q | q <;> simp [setR, setE, leaS, graS, q, c_1, c_16, k2, c_31, c_65]; done) | (rcases set_x c_1 c_16 c_31 c_45 with q | q <;> simp [setR, setE, q, c_1, c_16, k2, c_31, c_65]; done)) (by first | (rcases hq with q | q <;> simp [setM, setE, leaS, graS, q, c_1, c_16, k2, c_31, c_65]; done) | (rcases set_x c_1 c_16 c_31 c_45 with q | q <;> simp [setM, setE, q, c_1, c_16, k2, c_31, c_65]; done))
    · skip
      have q1 : x = 1 := c_16
      subst q1
      have k1 : tN 1 = 1 := rfl
      refine lv_iload_n hx hb dX5_set_19 rfl (lv_at hl 2 rfl) ?_
      refine lv_iconst (v := 0) hx hb dX5_set_20 (by decide) ?_
      refine lv_bipush (v := 50) hx hb dX5_set_21 (by decide) ?_
      refine q_S (As := [.int y, .int 0, .int 50]) (rest := []) ⟨hx, hb, hml, hown, hts⟩ (c_X5_in l y 0 50 ) (va_cwS 3 hts gX5_set_X5_in rfl rfl rfl (by decide +kernel) ⟨Nat.le_of_ble_eq_true rfl, Nat.le_of_ble_eq_true rfl⟩) q_Blind_t (fun _ _ _ => trivial) rfl hl.1 rfl (Nat.le_of_ble_eq_true rfl) dX5_set_23 (Nat.zero_le _) (Nat.zero_le _) ?_
      refine lv_goto (tgt := 63) hx hb dX5_set_26 (by decide) ?_
      refine lv_istore_n (lv' := [(3, .int (bI (inR y 0 50))), (0, .ref (d 0)), (1, .int (1)), (2, .int y)]) hx hb dX5_set_63 rfl hl (by decide) rfl (fun ls hl => ?_)
      refine lv_iload_n hx hb dX5_set_64 rfl (lv_at hl 0 rfl) ?_
      refine lv_if_ne (tgt := 71) hx hb dX5_set_65 (by decide) (fun c_65 => ?_) (fun c_65 => ?_)
      · skip
        have c_65 : (inR y 0 50) = true := bI_ne c_65
        have ey1 := (inR_t c_65).1
        have ey2 := (inR_t c_65).2
        refine lv_aload_n hx hb dX5_set_71 rfl (lv_at hl 1 rfl) ?_
        refine q_VM (As := []) (rest := []) (st2 := []) ⟨hx, hb, hml, hown, hts⟩ (c_X5_record l g d M hJ  (by first | omega | assumption)) (cwV 0 hts gX5_set_X5_record rfl rfl rfl (by decide +kernel) ⟨Nat.le_of_ble_eq_true rfl, Nat.le_of_ble_eq_true rfl⟩) q_B_blind (va_recv hK hP (ci := 4) (q0 := 0) rfl rfl) (q_B_of hP hK hN) rfl hl.1 rfl (Nat.le_of_ble_eq_true rfl) dX5_set_72 (Nat.zero_le _) (Nat.zero_le _) hS (fun _ h => h) rfl rfl rfl (fun H locs hP _ hS _ => ?_)
        have hP : va_P g.1 vwCl (q_mdW g d (m_rec M)) H := hP
        have hD : va_D (q_mAd d) (q_mdW g d (m_rec M)) := q_mD hJ (fun _ h => h)
        have hc : q_cp (v_now V) (m_s (m_rec M)) := by rw [m_recs]; exact hc
        refine lv_aload_n hx hb dX5_set_75 rfl (lv_at hl 1 rfl) ?_
        refine va_get (D := g.1) (ci := 4) (v := .ref (d 1)) (C := RX5) (T := TX5) (N := 7) hx hb hts hi_X5 hown hK hP 0 rfl rfl 0 (by decide) fl_7 (fun _ h9 => h9) rfl dX5_set_76 ?_
        refine lv_iload_n hx hb dX5_set_79 rfl (lv_at hl 2 rfl) ?_
        refine q_iald (j := 1) hx hb hK hP 1 0 rfl rfl (by omega) (by decide) dX5_set_80 ?_
        refine q_reI (show (m_s (m_rec M) 1 : Int32) = s_set (v_now V) 1 from cp_set hc (k := 1) (by omega)) ?_
        refine lv_istore (lv' := [(4, .int (s_set (v_now V) 1)), (3, .int (bI (inR y 0 50))), (0, .ref (d 0)), (1, .int (1)), (2, .int y)]) hx hb dX5_set_81 hl (by decide) rfl (fun ls hl => ?_)
        refine lv_aload_n hx hb dX5_set_83 rfl (lv_at hl 2 rfl) ?_
        refine va_get (D := g.1) (ci := 4) (v := .ref (d 1)) (C := RX5) (T := TX5) (N := 7) hx hb hts hi_X5 hown hK hP 0 rfl rfl 0 (by decide) fl_7 (fun _ h9 => h9) rfl dX5_set_84 ?_
        refine lv_iload_n hx hb dX5_set_87 rfl (lv_at hl 3 rfl) ?_
        refine lv_iload_n hx hb dX5_set_88 rfl (lv_at hl 4 rfl) ?_
        refine q_iast (j := 1) hx hb hK hP hD hS 1 0 rfl rfl (by omega) (by decide) dX5_set_89 (fun H locs hP hS => ?_)
        have hP : va_P g.1 vwCl (q_mdW g d (n_s (m_rec M) (upd (m_s (m_rec M)) 1 y))) H := hP
        have hD : va_D (q_mAd d) (q_mdW g d (n_s (m_rec M) (upd (m_s (m_rec M)) 1 y))) := q_mD hJ (fun _ h => h)
        refine lv_iload hx hb dX5_set_90 (lv_at hl 0 rfl) ?_
        exact q_miret hx hb hr hlk dX5_set_92 hP hS (by simp [setR, setM, setE, leaS, graS, c_1, k1, c_16, ey1, ey2, c_65]) (by simp [setR, setM, setE, leaS, graS, c_1, k1, c_16, ey1, ey2, c_65])
      · skip
        have c_65 : (inR y 0 50) = false := bI_eq c_65
        have hq := inR_f c_65
        refine lv_bipush (v := (-2)) hx hb dX5_set_68 (by decide) ?_
        exact q_miret hx hb hr hlk dX5_set_70 hP hS (by first | (rcases hq with q | q <;> simp [setR, setE, leaS, graS, q, c_1, k1, c_16, c_65]; done) | (rcases set_x c_1 c_16 c_31 c_45 with q | q <;> simp [setR, setE, q, c_1, k1, c_16, c_65]; done)) (by first | (rcases hq with q | q <;> simp [setM, setE, leaS, graS, q, c_1, k1, c_16, c_65]; done) | (rcases set_x c_1 c_16 c_31 c_45 with q | q <;> simp [setM, setE, q, c_1, k1, c_16, c_65]; done))
  · skip
    have q0 : x = 0 := c_1
    subst q0
    have k0 : tN 0 = 0 := rfl
    refine lv_iload_n hx hb dX5_set_4 rfl (lv_at hl 2 rfl) ?_
    refine lv_iconst (v := 1) hx hb dX5_set_5 (by decide) ?_
    refine lv_bipush (v := 100) hx hb dX5_set_6 (by decide) ?_
    refine q_S (As := [.int y, .int 1, .int 100]) (rest := []) ⟨hx, hb, hml, hown, hts⟩ (c_X5_in l y 1 100 ) (va_cwS 3 hts gX5_set_X5_in rfl rfl rfl (by decide +kernel) ⟨Nat.le_of_ble_eq_true rfl, Nat.le_of_ble_eq_true rfl⟩) q_Blind_t (fun _ _ _ => trivial) rfl hl.1 rfl (Nat.le_of_ble_eq_true rfl) dX5_set_8 (Nat.zero_le _) (Nat.zero_le _) ?_
    refine lv_goto (tgt := 63) hx hb dX5_set_11 (by decide) ?_
    refine lv_istore_n (lv' := [(3, .int (bI (inR y 1 100))), (0, .ref (d 0)), (1, .int (0)), (2, .int y)]) hx hb dX5_set_63 rfl hl (by decide) rfl (fun ls hl => ?_)
    refine lv_iload_n hx hb dX5_set_64 rfl (lv_at hl 0 rfl) ?_
    refine lv_if_ne (tgt := 71) hx hb dX5_set_65 (by decide) (fun c_65 => ?_) (fun c_65 => ?_)
    · skip
      have c_65 : (inR y 1 100) = true := bI_ne c_65
      have ey1 := (inR_t c_65).1
      have ey2 := (inR_t c_65).2
      refine lv_aload_n hx hb dX5_set_71 rfl (lv_at hl 1 rfl) ?_
      refine q_VM (As := []) (rest := []) (st2 := []) ⟨hx, hb, hml, hown, hts⟩ (c_X5_record l g d M hJ  (by first | omega | assumption)) (cwV 0 hts gX5_set_X5_record rfl rfl rfl (by decide +kernel) ⟨Nat.le_of_ble_eq_true rfl, Nat.le_of_ble_eq_true rfl⟩) q_B_blind (va_recv hK hP (ci := 4) (q0 := 0) rfl rfl) (q_B_of hP hK hN) rfl hl.1 rfl (Nat.le_of_ble_eq_true rfl) dX5_set_72 (Nat.zero_le _) (Nat.zero_le _) hS (fun _ h => h) rfl rfl rfl (fun H locs hP _ hS _ => ?_)
      have hP : va_P g.1 vwCl (q_mdW g d (m_rec M)) H := hP
      have hD : va_D (q_mAd d) (q_mdW g d (m_rec M)) := q_mD hJ (fun _ h => h)
      have hc : q_cp (v_now V) (m_s (m_rec M)) := by rw [m_recs]; exact hc
      refine lv_aload_n hx hb dX5_set_75 rfl (lv_at hl 1 rfl) ?_
      refine va_get (D := g.1) (ci := 4) (v := .ref (d 1)) (C := RX5) (T := TX5) (N := 7) hx hb hts hi_X5 hown hK hP 0 rfl rfl 0 (by decide) fl_7 (fun _ h9 => h9) rfl dX5_set_76 ?_
      refine lv_iload_n hx hb dX5_set_79 rfl (lv_at hl 2 rfl) ?_
      refine q_iald (j := 0) hx hb hK hP 1 0 rfl rfl (by omega) (by decide) dX5_set_80 ?_
      refine q_reI (show (m_s (m_rec M) 0 : Int32) = s_set (v_now V) 0 from cp_set hc (k := 0) (by omega)) ?_
      refine lv_istore (lv' := [(4, .int (s_set (v_now V) 0)), (3, .int (bI (inR y 1 100))), (0, .ref (d 0)), (1, .int (0)), (2, .int y)]) hx hb dX5_set_81 hl (by decide) rfl (fun ls hl => ?_)
      refine lv_aload_n hx hb dX5_set_83 rfl (lv_at hl 2 rfl) ?_
      refine va_get (D := g.1) (ci := 4) (v := .ref (d 1)) (C := RX5) (T := TX5) (N := 7) hx hb hts hi_X5 hown hK hP 0 rfl rfl 0 (by decide) fl_7 (fun _ h9 => h9) rfl dX5_set_84 ?_
      refine lv_iload_n hx hb dX5_set_87 rfl (lv_at hl 3 rfl) ?_
      refine lv_iload_n hx hb dX5_set_88 rfl (lv_at hl 4 rfl) ?_
      refine q_iast (j := 0) hx hb hK hP hD hS 1 0 rfl rfl (by omega) (by decide) dX5_set_89 (fun H locs hP hS => ?_)
      have hP : va_P g.1 vwCl (q_mdW g d (n_s (m_rec M) (upd (m_s (m_rec M)) 0 y))) H := hP
      have hD : va_D (q_mAd d) (q_mdW g d (n_s (m_rec M) (upd (m_s (m_rec M)) 0 y))) := q_mD hJ (fun _ h => h)
      refine lv_iload hx hb dX5_set_90 (lv_at hl 0 rfl) ?_
      exact q_miret hx hb hr hlk dX5_set_92 hP hS (by simp [setR, setM, setE, leaS, graS, k0, c_1, ey1, ey2, c_65]) (by simp [setR, setM, setE, leaS, graS, k0, c_1, ey1, ey2, c_65])
    · skip
      have c_65 : (inR y 1 100) = false := bI_eq c_65
      have hq := inR_f c_65
      refine lv_bipush (v := (-2)) hx hb dX5_set_68 (by decide) ?_
      exact q_miret hx hb hr hlk dX5_set_70 hP hS (by first | (rcases hq with q | q <;> simp [setR, setE, leaS, graS, q, k0, c_1, c_65]; done) | (rcases set_x c_1 c_16 c_31 c_45 with q | q <;> simp [setR, setE, q, k0, c_1, c_65]; done)) (by first | (rcases hq with q | q <;> simp [setM, setE, leaS, graS, q, k0, c_1, c_65]; done) | (rcases set_x c_1 c_16 c_31 c_45 with q | q <;> simp [setM, setE, q, k0, c_1, c_65]; done))
