/-! the reference's bestJoker -/
theorem up_up {f : Nat → Int32} {j : Nat} {a b : Int32} : upd (upd f j a) j b = upd f j b := by
  funext k
  unfold upd
  split <;> rfl
def jvF (f : Nat → Int32) (j i : Nat) : Int32 := if i = 0 then f j else nI i
theorem jv_0 (f : Nat → Int32) (j : Nat) : upd f j (jvF f j 0) = f := by
  funext k
  unfold upd jvF
  by_cases c : k = j
  · rw [if_pos c, if_pos rfl, c]
  · rw [if_neg c]
theorem cp_e {S : q_St} {f g : Nat → Int32} (e : f = g) (h : q_cp S g) : q_cp S f := e ▸ h
theorem sco_jok (S : q_St) (t i : Nat) : scoS (jokS S t i) t = swjS S t (nI i) := by
  unfold scoS swjS
  refine q_acc_congr fun r _ => ?_
  unfold ptsS wjS withJ
  have e : s_jok (jokS S t i) t = nI i := up_eq
  rw [e]
  show (if s_mkr S (t * 8 + r) = -6 then 0 else if nI i = nI r then 2 * s_mar S (t * 8 + r) else s_mar S (t * 8 + r)) = _
  by_cases c : s_mkr S (t * 8 + r) = -6
  · have c2 : tldS S t r = false := by unfold tldS; exact decide_eq_false fun q => q c
    rw [if_pos c, c2]
    by_cases d : nI r = nI i
    · rw [if_pos d]; simp
    · rw [if_neg d]; rfl
  · have c2 : tldS S t r = true := tld_iff.mpr c
    rw [if_neg c, c2]
    by_cases d : nI i = nI r
    · rw [if_pos d, if_pos d.symm]; rfl
    · rw [if_neg d, if_neg (fun q => d q.symm)]; rfl
def mstS (S : q_St) (t i : Nat) : Int32 := if i = 0 then -100000 else swjS S t (nI (besS S t i))
theorem swj_rg {S : q_St} {K : Nat} (ho : q_ok K S) (hK : K ≤ 512) {t i : Nat} (ht : t < 10) (hi : i < 8) : ¬ swjS S t (nI i) ≤ -100000 := by
  rw [← sco_jok]
  have h := rg_sco (ok_joku ho ht hi) hK ht
  intro q
  rw [Int32.le_iff_toInt_le, show (-100000 : Int32).toInt = -100000 from by decide] at q
  have := h.1
  omega
theorem bes_a {S : q_St} {K : Nat} (ho : q_ok K S) (hK : K ≤ 512) {t i : Nat} (ht : t < 10) (hi : i < 8) (c : swjS S t (nI i) ≤ mstS S t i) : besS S t i = besS S t (i + 1) ∧ mstS S t i = mstS S t (i + 1) := by
  by_cases e : i = 0
  · subst e
    exact absurd c (swj_rg ho hK ht hi)
  · have e2 : mstS S t i = swjS S t (nI (besS S t i)) := if_neg e
    rw [e2] at c
    have e3 : besS S t (i + 1) = besS S t i := if_pos c
    refine ⟨e3.symm, ?_⟩
    rw [e2]
    show _ = if i + 1 = 0 then _ else swjS S t (nI (besS S t (i + 1)))
    rw [if_neg (Nat.succ_ne_zero i), e3]
theorem bes_b {S : q_St} {t i : Nat} (c : ¬ swjS S t (nI i) ≤ mstS S t i) : i = besS S t (i + 1) ∧ swjS S t (nI i) = mstS S t (i + 1) := by
  have e3 : besS S t (i + 1) = i := by
    by_cases e : i = 0
    · subst e
      show (if _ then 0 else 0) = 0
      split <;> rfl
    · have e2 : mstS S t i = swjS S t (nI (besS S t i)) := if_neg e
      rw [e2] at c
      exact if_neg c
  refine ⟨e3.symm, ?_⟩
  show _ = if i + 1 = 0 then _ else swjS S t (nI (besS S t (i + 1)))
  rw [if_neg (Nat.succ_ne_zero i), e3]
theorem in01_t {z : Int32} (h : inR z 0 1 = true) : z = 0 ∨ z = 1 := by
  have h := inR_t h
  obtain ⟨v, hv, rfl⟩ := nI_of h.1
  have k := (nI_leI (b := 1) hv (by decide)).mp h.2
  rcases (show v = 0 ∨ v = 1 by omega) with rfl | rfl
  · exact Or.inl rfl
  · exact Or.inr rfl
theorem in01_f {z : Int32} (h : inR z 0 1 = false) : ¬ z = 0 ∧ ¬ z = 1 := by
  constructor <;> (rintro rfl; exact absurd h (by decide))
theorem bj_back {M : q_MV} {X : Nat → Int32} {j : Nat} {a v : Int32} (h : m_s M j = v) : n_s (n_s M X) (upd (upd (m_s M) j a) j v) = M := by
  have e : upd (upd (m_s M) j a) j v = m_s M := by
    rw [up_up, ← h]
    funext k
    unfold upd
    by_cases c : k = j
    · rw [if_pos c, c]
    · rw [if_neg c]
  rw [e]
  rfl

set_option maxHeartbeats 2000000 in
set_option maxRecDepth 100000 in
theorem c_X5_bestJoker (l : Launch) (g : q_G) (d : Nat → Nat) (M : q_MV) (hJ : q_mInj d) (V : q_CV) (K : Nat) (hc : q_cp (v_now V) (m_s M)) (ho : q_ok K (v_now V)) (hK5 : K ≤ 512) (x : Int32) (z : Int32) (h1_ : m_st M ≤ 6) : Met l yX5_bestJoker wsX5_bestJoker { frames := 4, cells := 0, slots := 0, locals := 89 } (va_Pc [.ref (d 0), .int x, .int z] (q_B g (q_mdW g d M))) (q_QM g (q_mAd d) (q_mdW g d (M)) (some (.int (bejR V x z)))) 0 0 (q_mAd d) := by
  refine q_mm (cc := cX5_bestJoker) (maxL := 8) (ret := (some .int)) (by decide) rfl (Nat.le_of_ble_eq_true rfl) ?_
  intro p e s m args below meth c ls hx hb hml hown hts hr hlk hnm hB hag hl
  obtain ⟨hP, hK, hN⟩ := hB
  have hS : va_S (q_mAd d) s.heap s.heap [] := va_S.rf
  have hP : va_P g.1 vwCl (q_mdW g d M) s.heap := hP
  have hD : va_D (q_mAd d) (q_mdW g d M) := q_mD hJ (fun _ h => h)
  have fl_7 := hts (.fieldLink RX5 7 "PubQuizzesModel" "s" "[I") (by decide +kernel)
  have hi_X5 : ∀ w ∈ u_ws RX5 TX5 7, w ∈ wsX5_bestJoker := by decide +kernel
  have hl : lv_has ls 8 [(0, .ref (d 0)), (1, .int x), (2, .int z)] := hl
  have hn10 := ok_n ho
  have ho0 := ho
  have hc0 := hc
  refine lv_aload_n hx hb dX5_bestJoker_0 rfl (lv_at hl 0 rfl) ?_
  refine lv_iload_n hx hb dX5_bestJoker_1 rfl (lv_at hl 1 rfl) ?_
  refine q_V (As := [.int x]) (rest := []) ⟨hx, hb, hml, hown, hts⟩ (c_X5_isTeam l g d M (v_now V) K hc ho hK5 x ) (cwV 1 hts gX5_bestJoker_X5_isTeam rfl rfl rfl (by decide +kernel) ⟨Nat.le_of_ble_eq_true rfl, Nat.le_of_ble_eq_true rfl⟩) q_B_blind (va_recv hK hP (ci := 4) (q0 := 0) rfl rfl) (q_B_of hP hK hN) rfl hl.1 rfl (Nat.le_of_ble_eq_true rfl) dX5_bestJoker_2 (Nat.zero_le _) (Nat.zero_le _) ?_
  refine lv_if_ne (tgt := 10) hx hb dX5_bestJoker_5 (by decide) (fun c_5 => ?_) (fun c_5 => ?_)
  · skip
    have c_5 : (isTm (v_now V) x) = true := bI_ne c_5
    obtain ⟨t1, ht1, ht1x, rfl⟩ := isTm_of hn10 c_5
    have ct1 : tN (nI t1) = t1 := tN_n (by omega)
    refine lv_iload_n hx hb dX5_bestJoker_10 rfl (lv_at hl 2 rfl) ?_
    refine lv_iconst (v := 0) hx hb dX5_bestJoker_11 (by decide) ?_
    refine lv_iconst (v := 1) hx hb dX5_bestJoker_12 (by decide) ?_
    refine q_S (As := [.int z, .int 0, .int 1]) (rest := []) ⟨hx, hb, hml, hown, hts⟩ (c_X5_in l z 0 1 ) (va_cwS 3 hts gX5_bestJoker_X5_in rfl rfl rfl (by decide +kernel) ⟨Nat.le_of_ble_eq_true rfl, Nat.le_of_ble_eq_true rfl⟩) q_Blind_t (fun _ _ _ => trivial) rfl hl.1 rfl (Nat.le_of_ble_eq_true rfl) dX5_bestJoker_13 (Nat.zero_le _) (Nat.zero_le _) ?_
    refine lv_if_ne (tgt := 22) hx hb dX5_bestJoker_16 (by decide) (fun c_16 => ?_) (fun c_16 => ?_)
    · skip
      have c_16 : (inR z 0 1) = true := bI_ne c_16
      have hz1 := in01_t c_16
      refine lv_aload_n hx hb dX5_bestJoker_22 rfl (lv_at hl 0 rfl) ?_
      refine va_get (D := g.1) (ci := 4) (v := .ref (d 1)) (C := RX5) (T := TX5) (N := 7) hx hb hts hi_X5 hown hK hP 0 rfl rfl 0 (by decide) fl_7 (fun _ h9 => h9) rfl dX5_bestJoker_23 ?_
      refine lv_iload_n hx hb dX5_bestJoker_26 rfl (lv_at hl 1 rfl) ?_
      refine q_S (As := [.int (nI t1)]) (rest := [.ref (d 1)]) ⟨hx, hb, hml, hown, hts⟩ (c_X5_t l t1 ) (va_cwS 1 hts gX5_bestJoker_X5_t rfl rfl rfl (by decide +kernel) ⟨Nat.le_of_ble_eq_true rfl, Nat.le_of_ble_eq_true rfl⟩) q_Blind_t (fun _ _ _ => trivial) rfl hl.1 rfl (Nat.le_of_ble_eq_true rfl) dX5_bestJoker_27 (Nat.zero_le _) (Nat.zero_le _) ?_
      refine lv_iconst (v := 1) hx hb dX5_bestJoker_30 (by decide) ?_
      refine lv_iadd hx hb dX5_bestJoker_31 ?_
      refine q_reI (show (((nI (96 + 4 * t1)) + 1) : Int32) = nI (96 + 4 * t1 + 1) from nI_add _ _) ?_
      refine q_iald (j := (96 + 4 * t1 + 1)) hx hb hK hP 1 0 rfl rfl (by omega) (by decide) dX5_bestJoker_32 ?_
      refine q_reI (show (m_s M (96 + 4 * t1 + 1) : Int32) = jkI (s_jok (v_now V) t1) from cp_jok hc (t := t1) (by omega)) ?_
      refine lv_istore_n (lv' := [(3, .int (jkI (s_jok (v_now V) t1))), (0, .ref (d 0)), (1, .int (nI t1)), (2, .int z)]) hx hb dX5_bestJoker_33 rfl hl (by decide) rfl (fun ls hl => ?_)
      refine lv_iconst (v := 0) hx hb dX5_bestJoker_34 (by decide) ?_
      refine lv_istore (lv' := [(4, .int 0), (3, .int (jkI (s_jok (v_now V) t1))), (0, .ref (d 0)), (1, .int (nI t1)), (2, .int z)]) hx hb dX5_bestJoker_35 hl (by decide) rfl (fun ls hl => ?_)
      refine lv_ldc (v := (-100000)) hx hb hown (hts (.constant RX5 132 (-100000)) (by decide +kernel)) dX5_bestJoker_37 ?_
      refine lv_istore (lv' := [(5, .int (-100000)), (4, .int 0), (3, .int (jkI (s_jok (v_now V) t1))), (0, .ref (d 0)), (1, .int (nI t1)), (2, .int z)]) hx hb dX5_bestJoker_39 hl (by decide) rfl (fun ls hl => ?_)
      refine lv_iconst (v := 0) hx hb dX5_bestJoker_41 (by decide) ?_
      refine lv_istore (lv' := [(6, .int 0), (5, .int (-100000)), (4, .int 0), (3, .int (jkI (s_jok (v_now V) t1))), (0, .ref (d 0)), (1, .int (nI t1)), (2, .int z)]) hx hb dX5_bestJoker_42 hl (by decide) rfl (fun ls hl => ?_)
      have L_44 : ∀ (fu i44 : Nat) (y5_44 : Int32) (y4_44 : Int32) (H : Heap) (locs : List Loc), y5_44 = mstS (v_now V) t1 i44 → y4_44 = nI (besS (v_now V) t1 i44) → va_P g.1 vwCl (q_mdW g d (n_s M (upd (m_s M) (96 + 4 * t1 + 1) (jvF (m_s M) (96 + 4 * t1 + 1) i44)))) H → va_S (q_mAd d) s.heap H locs → i44 ≤ 8 → 8 < i44 + fu → ∀ ls : Array Slot, lv_has ls 8 [(6, .int (nI i44)), (5, .int y5_44), (4, .int y4_44), (3, .int (jkI (s_jok (v_now V) t1))), (0, .ref (d 0)), (1, .int (nI t1)), (2, .int z)] → W p l e { frames := 4, cells := 0, slots := 0, locals := 89 } s m args below meth c H locs 0 0 (MQ below (q_QM g (q_mAd d) (q_mdW g d (M)) (some (.int (bejR V (nI t1) z)))) args s 0 0 (q_mAd d)) (F0 m 44 ls []) := by
        intro fu
        induction fu with
        | zero => intro i44 y5_44 y4_44 H locs ey5_44 ey4_44 hP hS hi_i44 hn_i44; exact absurd hn_i44 (by omega)
        | succ fu ih_i44 =>
          intro i44 y5_44 y4_44 H locs ey5_44 ey4_44 hP hS hi_i44 hn_i44 ls hl
          subst ey5_44
          subst ey4_44
          have hD : va_D (q_mAd d) (q_mdW g d (n_s M (upd (m_s M) (96 + 4 * t1 + 1) (jvF (m_s M) (96 + 4 * t1 + 1) i44)))) := q_mD hJ (fun _ h => h)
          refine lv_iload hx hb dX5_bestJoker_44 (lv_at hl 0 rfl) ?_
          refine lv_bipush (v := 8) hx hb dX5_bestJoker_46 (by decide) ?_
          refine lv_icmp_ge (tgt := 111) hx hb dX5_bestJoker_48 (by decide) (fun c_48 => ?_) (fun c_48 => ?_)
          · skip
            have e_48 : i44 = 8 := q_ge_T (by omega) hi_i44 c_48
            subst e_48
            refine lv_aload_n hx hb dX5_bestJoker_111 rfl (lv_at hl 4 rfl) ?_
            refine va_get (D := g.1) (ci := 4) (v := .ref (d 1)) (C := RX5) (T := TX5) (N := 7) hx hb hts hi_X5 hown hK hP 0 rfl rfl 0 (by decide) fl_7 (fun _ h9 => h9) rfl dX5_bestJoker_112 ?_
            refine lv_iload_n hx hb dX5_bestJoker_115 rfl (lv_at hl 5 rfl) ?_
            refine q_S (As := [.int (nI t1)]) (rest := [.ref (d 1)]) ⟨hx, hb, hml, hown, hts⟩ (c_X5_t l t1 ) (va_cwS 1 hts gX5_bestJoker_X5_t rfl rfl rfl (by decide +kernel) ⟨Nat.le_of_ble_eq_true rfl, Nat.le_of_ble_eq_true rfl⟩) q_Blind_t (fun _ _ _ => trivial) rfl hl.1 rfl (Nat.le_of_ble_eq_true rfl) dX5_bestJoker_116 (Nat.zero_le _) (Nat.zero_le _) ?_
            refine lv_iconst (v := 1) hx hb dX5_bestJoker_119 (by decide) ?_
            refine lv_iadd hx hb dX5_bestJoker_120 ?_
            refine q_reI (show (((nI (96 + 4 * t1)) + 1) : Int32) = nI (96 + 4 * t1 + 1) from nI_add _ _) ?_
            refine lv_iload_n hx hb dX5_bestJoker_121 rfl (lv_at hl 3 rfl) ?_
            refine q_iast (j := (96 + 4 * t1 + 1)) hx hb hK hP hD hS 1 0 rfl rfl (by omega) (by decide) dX5_bestJoker_122 (fun H locs hP hS => ?_)
            have hP : va_P g.1 vwCl (q_mdW g d (n_s (n_s M (upd (m_s M) (96 + 4 * t1 + 1) (jvF (m_s M) (96 + 4 * t1 + 1) 8))) (upd (upd (m_s M) (96 + 4 * t1 + 1) (jvF (m_s M) (96 + 4 * t1 + 1) 8)) (96 + 4 * t1 + 1) (jkI (s_jok (v_now V) t1))))) H := hP
            have hD : va_D (q_mAd d) (q_mdW g d (n_s (n_s M (upd (m_s M) (96 + 4 * t1 + 1) (jvF (m_s M) (96 + 4 * t1 + 1) 8))) (upd (upd (m_s M) (96 + 4 * t1 + 1) (jvF (m_s M) (96 + 4 * t1 + 1) 8)) (96 + 4 * t1 + 1) (jkI (s_jok (v_now V) t1))))) := q_mD hJ (fun _ h => h)
            refine lv_iload_n hx hb dX5_bestJoker_123 rfl (lv_at hl 6 rfl) ?_
            refine lv_if_ne (tgt := 132) hx hb dX5_bestJoker_124 (by decide) (fun c_124 => ?_) (fun c_124 => ?_)
            · skip
              have ez := hz1.resolve_left c_124
              refine lv_iload hx hb dX5_bestJoker_132 (lv_at hl 1 rfl) ?_
              refine lv_sipush (v := 1000) hx hb dX5_bestJoker_134 (by decide) ?_
              refine lv_iadd hx hb dX5_bestJoker_137 ?_
              exact q_miret hx hb hr hlk dX5_bestJoker_138 hP hS (by simp [bejR, mstS, ct1, c_5, c_16, ez, c_124]) (by first | rfl | exact congrArg (q_mdW g d) (bj_back (cp_jok hc0 (by omega))))
            · skip
              refine lv_iload hx hb dX5_bestJoker_127 (lv_at hl 2 rfl) ?_
              refine lv_goto (tgt := 138) hx hb dX5_bestJoker_129 (by decide) ?_
              exact q_miret hx hb hr hlk dX5_bestJoker_138 hP hS (by simp [bejR, mstS, ct1, c_5, c_16, c_124]) (by first | rfl | exact congrArg (q_mdW g d) (bj_back (cp_jok hc0 (by omega))))
          · skip
            have lt_i44 : i44 < 8 := q_ge_F (by omega) hi_i44 c_48
            refine lv_aload_n hx hb dX5_bestJoker_51 rfl (lv_at hl 4 rfl) ?_
            refine va_get (D := g.1) (ci := 4) (v := .ref (d 1)) (C := RX5) (T := TX5) (N := 7) hx hb hts hi_X5 hown hK hP 0 rfl rfl 0 (by decide) fl_7 (fun _ h9 => h9) rfl dX5_bestJoker_52 ?_
            refine lv_iload_n hx hb dX5_bestJoker_55 rfl (lv_at hl 5 rfl) ?_
            refine q_S (As := [.int (nI t1)]) (rest := [.ref (d 1)]) ⟨hx, hb, hml, hown, hts⟩ (c_X5_t l t1 ) (va_cwS 1 hts gX5_bestJoker_X5_t rfl rfl rfl (by decide +kernel) ⟨Nat.le_of_ble_eq_true rfl, Nat.le_of_ble_eq_true rfl⟩) q_Blind_t (fun _ _ _ => trivial) rfl hl.1 rfl (Nat.le_of_ble_eq_true rfl) dX5_bestJoker_56 (Nat.zero_le _) (Nat.zero_le _) ?_
            refine lv_iconst (v := 1) hx hb dX5_bestJoker_59 (by decide) ?_
            refine lv_iadd hx hb dX5_bestJoker_60 ?_
            refine q_reI (show (((nI (96 + 4 * t1)) + 1) : Int32) = nI (96 + 4 * t1 + 1) from nI_add _ _) ?_
            refine lv_iload hx hb dX5_bestJoker_61 (lv_at hl 0 rfl) ?_
            refine lv_iconst (v := 1) hx hb dX5_bestJoker_63 (by decide) ?_
            refine lv_iadd hx hb dX5_bestJoker_64 ?_
            refine q_reI (show (((nI i44) + 1) : Int32) = nI (i44 + 1) from nI_add _ _) ?_
            refine q_iast (j := (96 + 4 * t1 + 1)) hx hb hK hP hD hS 1 0 rfl rfl (by omega) (by decide) dX5_bestJoker_65 (fun H locs hP hS => ?_)
            have hP : va_P g.1 vwCl (q_mdW g d (n_s (n_s M (upd (m_s M) (96 + 4 * t1 + 1) (jvF (m_s M) (96 + 4 * t1 + 1) i44))) (upd (upd (m_s M) (96 + 4 * t1 + 1) (jvF (m_s M) (96 + 4 * t1 + 1) i44)) (96 + 4 * t1 + 1) (nI (i44 + 1))))) H := hP
            have hD : va_D (q_mAd d) (q_mdW g d (n_s (n_s M (upd (m_s M) (96 + 4 * t1 + 1) (jvF (m_s M) (96 + 4 * t1 + 1) i44))) (upd (upd (m_s M) (96 + 4 * t1 + 1) (jvF (m_s M) (96 + 4 * t1 + 1) i44)) (96 + 4 * t1 + 1) (nI (i44 + 1))))) := q_mD hJ (fun _ h => h)
            have hc : q_cp (jokS (v_now V) t1 i44) (m_s (n_s (n_s M (upd (m_s M) (96 + 4 * t1 + 1) (jvF (m_s M) (96 + 4 * t1 + 1) i44))) (upd (upd (m_s M) (96 + 4 * t1 + 1) (jvF (m_s M) (96 + 4 * t1 + 1) i44)) (96 + 4 * t1 + 1) (nI (i44 + 1))))) := cp_e up_up (cp_joku hc (by omega) (by omega))
            have ho : q_ok K (jokS (v_now V) t1 i44) := ok_joku ho (by omega) (by omega)
            have hn11 : s_n (jokS (v_now V) t1 i44) ≤ 10 := ok_n ho
            refine lv_aload_n hx hb dX5_bestJoker_66 rfl (lv_at hl 4 rfl) ?_
            refine lv_iload_n hx hb dX5_bestJoker_67 rfl (lv_at hl 5 rfl) ?_
            refine q_V (As := [.int (nI t1)]) (rest := []) ⟨hx, hb, hml, hown, hts⟩ (c_X5_score l g d (n_s (n_s M (upd (m_s M) (96 + 4 * t1 + 1) (jvF (m_s M) (96 + 4 * t1 + 1) i44))) (upd (upd (m_s M) (96 + 4 * t1 + 1) (jvF (m_s M) (96 + 4 * t1 + 1) i44)) (96 + 4 * t1 + 1) (nI (i44 + 1)))) (jokS (v_now V) t1 i44) K hc ho hK5 t1 (by first | omega | assumption)) (cwV 1 hts gX5_bestJoker_X5_score rfl rfl rfl (by decide +kernel) ⟨Nat.le_of_ble_eq_true rfl, Nat.le_of_ble_eq_true rfl⟩) q_B_blind (va_recv hK hP (ci := 4) (q0 := 0) rfl rfl) (q_B_of hP hK hN) rfl hl.1 rfl (Nat.le_of_ble_eq_true rfl) dX5_bestJoker_68 (Nat.zero_le _) (Nat.zero_le _) ?_
            refine q_reI (show (scoS (jokS (v_now V) t1 i44) t1 : Int32) = swjS (v_now V) t1 (nI i44) from sco_jok _ _ _) ?_
            refine lv_istore (lv' := [(7, .int (swjS (v_now V) t1 (nI i44))), (6, .int (nI i44)), (5, .int (mstS (v_now V) t1 i44)), (4, .int (nI (besS (v_now V) t1 i44))), (3, .int (jkI (s_jok (v_now V) t1))), (0, .ref (d 0)), (1, .int (nI t1)), (2, .int z)]) hx hb dX5_bestJoker_71 hl (by decide) rfl (fun ls hl => ?_)
            refine lv_iload hx hb dX5_bestJoker_73 (lv_at hl 0 rfl) ?_
            refine lv_iload hx hb dX5_bestJoker_75 (lv_at hl 2 rfl) ?_
            refine lv_icmp_le (tgt := 85) hx hb dX5_bestJoker_77 (by decide) (fun c_77 => ?_) (fun c_77 => ?_)
            · skip
              refine lv_iload hx hb dX5_bestJoker_85 (lv_at hl 3 rfl) ?_
              refine lv_istore (lv' := [(4, .int (nI (besS (v_now V) t1 i44))), (7, .int (swjS (v_now V) t1 (nI i44))), (6, .int (nI i44)), (5, .int (mstS (v_now V) t1 i44)), (3, .int (jkI (s_jok (v_now V) t1))), (0, .ref (d 0)), (1, .int (nI t1)), (2, .int z)]) hx hb dX5_bestJoker_87 hl (by decide) rfl (fun ls hl => ?_)
              refine lv_iload hx hb dX5_bestJoker_89 (lv_at hl 1 rfl) ?_
              refine lv_iload hx hb dX5_bestJoker_91 (lv_at hl 3 rfl) ?_
              refine lv_icmp_le (tgt := 101) hx hb dX5_bestJoker_93 (by decide) (fun c_93 => ?_) (fun c_93 => ?_)
              · skip
                refine lv_iload hx hb dX5_bestJoker_101 (lv_at hl 3 rfl) ?_
                refine lv_istore (lv' := [(5, .int (mstS (v_now V) t1 i44)), (4, .int (nI (besS (v_now V) t1 i44))), (7, .int (swjS (v_now V) t1 (nI i44))), (6, .int (nI i44)), (3, .int (jkI (s_jok (v_now V) t1))), (0, .ref (d 0)), (1, .int (nI t1)), (2, .int z)]) hx hb dX5_bestJoker_103 hl (by decide) rfl (fun ls hl => ?_)
                refine lv_iinc (v := nI (i44 + 1)) (lv' := [(6, .int (nI (i44 + 1))), (5, .int (mstS (v_now V) t1 i44)), (4, .int (nI (besS (v_now V) t1 i44))), (7, .int (swjS (v_now V) t1 (nI i44))), (3, .int (jkI (s_jok (v_now V) t1))), (0, .ref (d 0)), (1, .int (nI t1)), (2, .int z)]) hx hb dX5_bestJoker_105 hl (k := 3) rfl (nI_1 _) (by decide) rfl (fun ls hl => ?_)
                refine lv_goto (tgt := 44) hx hb dX5_bestJoker_108 (by decide) ?_
                exact ih_i44 (i44 + 1) (mstS (v_now V) t1 i44) (nI (besS (v_now V) t1 i44)) _ _ (by first | exact absurd c_93 c_77 | exact absurd c_77 c_93 | exact (bes_a ho0 hK5 (by omega) (by omega) c_77).2 | exact (bes_b c_77).2) (by first | exact absurd c_93 c_77 | exact absurd c_77 c_93 | exact congrArg nI (bes_a ho0 hK5 (by omega) (by omega) c_77).1 | exact congrArg nI (bes_b c_77).1) (by first | exact absurd c_93 c_77 | exact absurd c_77 c_93 | (rw [show jvF (m_s M) (96 + 4 * t1 + 1) (i44 + 1) = nI (i44 + 1) from if_neg (Nat.succ_ne_zero _), ← up_up (f := m_s M) (a := jvF (m_s M) (96 + 4 * t1 + 1) i44)]; exact hP)) hS lt_i44 (by omega) ls (lv_sub hl [0, 1, 2, 4, 5, 6, 7] rfl)
              · skip
                refine lv_iload hx hb dX5_bestJoker_96 (lv_at hl 1 rfl) ?_
                refine lv_goto (tgt := 103) hx hb dX5_bestJoker_98 (by decide) ?_
                refine lv_istore (lv' := [(5, .int (swjS (v_now V) t1 (nI i44))), (4, .int (nI (besS (v_now V) t1 i44))), (7, .int (swjS (v_now V) t1 (nI i44))), (6, .int (nI i44)), (3, .int (jkI (s_jok (v_now V) t1))), (0, .ref (d 0)), (1, .int (nI t1)), (2, .int z)]) hx hb dX5_bestJoker_103 hl (by decide) rfl (fun ls hl => ?_)
                refine lv_iinc (v := nI (i44 + 1)) (lv' := [(6, .int (nI (i44 + 1))), (5, .int (swjS (v_now V) t1 (nI i44))), (4, .int (nI (besS (v_now V) t1 i44))), (7, .int (swjS (v_now V) t1 (nI i44))), (3, .int (jkI (s_jok (v_now V) t1))), (0, .ref (d 0)), (1, .int (nI t1)), (2, .int z)]) hx hb dX5_bestJoker_105 hl (k := 3) rfl (nI_1 _) (by decide) rfl (fun ls hl => ?_)
                refine lv_goto (tgt := 44) hx hb dX5_bestJoker_108 (by decide) ?_
                exact ih_i44 (i44 + 1) (swjS (v_now V) t1 (nI i44)) (nI (besS (v_now V) t1 i44)) _ _ (by first | exact absurd c_93 c_77 | exact absurd c_77 c_93 | exact (bes_a ho0 hK5 (by omega) (by omega) c_77).2 | exact (bes_b c_77).2) (by first | exact absurd c_93 c_77 | exact absurd c_77 c_93 | exact congrArg nI (bes_a ho0 hK5 (by omega) (by omega) c_77).1 | exact congrArg nI (bes_b c_77).1) (by first | exact absurd c_93 c_77 | exact absurd c_77 c_93 | (rw [show jvF (m_s M) (96 + 4 * t1 + 1) (i44 + 1) = nI (i44 + 1) from if_neg (Nat.succ_ne_zero _), ← up_up (f := m_s M) (a := jvF (m_s M) (96 + 4 * t1 + 1) i44)]; exact hP)) hS lt_i44 (by omega) ls (lv_sub hl [0, 1, 2, 4, 5, 6, 7] rfl)
            · skip
              refine lv_iload hx hb dX5_bestJoker_80 (lv_at hl 1 rfl) ?_
              refine lv_goto (tgt := 87) hx hb dX5_bestJoker_82 (by decide) ?_
              refine lv_istore (lv' := [(4, .int (nI i44)), (7, .int (swjS (v_now V) t1 (nI i44))), (6, .int (nI i44)), (5, .int (mstS (v_now V) t1 i44)), (3, .int (jkI (s_jok (v_now V) t1))), (0, .ref (d 0)), (1, .int (nI t1)), (2, .int z)]) hx hb dX5_bestJoker_87 hl (by decide) rfl (fun ls hl => ?_)
              refine lv_iload hx hb dX5_bestJoker_89 (lv_at hl 1 rfl) ?_
              refine lv_iload hx hb dX5_bestJoker_91 (lv_at hl 3 rfl) ?_
              refine lv_icmp_le (tgt := 101) hx hb dX5_bestJoker_93 (by decide) (fun c_93 => ?_) (fun c_93 => ?_)
              · skip
                refine lv_iload hx hb dX5_bestJoker_101 (lv_at hl 3 rfl) ?_
                refine lv_istore (lv' := [(5, .int (mstS (v_now V) t1 i44)), (4, .int (nI i44)), (7, .int (swjS (v_now V) t1 (nI i44))), (6, .int (nI i44)), (3, .int (jkI (s_jok (v_now V) t1))), (0, .ref (d 0)), (1, .int (nI t1)), (2, .int z)]) hx hb dX5_bestJoker_103 hl (by decide) rfl (fun ls hl => ?_)
                refine lv_iinc (v := nI (i44 + 1)) (lv' := [(6, .int (nI (i44 + 1))), (5, .int (mstS (v_now V) t1 i44)), (4, .int (nI i44)), (7, .int (swjS (v_now V) t1 (nI i44))), (3, .int (jkI (s_jok (v_now V) t1))), (0, .ref (d 0)), (1, .int (nI t1)), (2, .int z)]) hx hb dX5_bestJoker_105 hl (k := 3) rfl (nI_1 _) (by decide) rfl (fun ls hl => ?_)
                refine lv_goto (tgt := 44) hx hb dX5_bestJoker_108 (by decide) ?_
                exact ih_i44 (i44 + 1) (mstS (v_now V) t1 i44) (nI i44) _ _ (by first | exact absurd c_93 c_77 | exact absurd c_77 c_93 | exact (bes_a ho0 hK5 (by omega) (by omega) c_77).2 | exact (bes_b c_77).2) (by first | exact absurd c_93 c_77 | exact absurd c_77 c_93 | exact congrArg nI (bes_a ho0 hK5 (by omega) (by omega) c_77).1 | exact congrArg nI (bes_b c_77).1) (by first | exact absurd c_93 c_77 | exact absurd c_77 c_93 | (rw [show jvF (m_s M) (96 + 4 * t1 + 1) (i44 + 1) = nI (i44 + 1) from if_neg (Nat.succ_ne_zero _), ← up_up (f := m_s M) (a := jvF (m_s M) (96 + 4 * t1 + 1) i44)]; exact hP)) hS lt_i44 (by omega) ls (lv_sub hl [0, 1, 2, 4, 5, 6, 7] rfl)
              · skip
                refine lv_iload hx hb dX5_bestJoker_96 (lv_at hl 1 rfl) ?_
                refine lv_goto (tgt := 103) hx hb dX5_bestJoker_98 (by decide) ?_
                refine lv_istore (lv' := [(5, .int (swjS (v_now V) t1 (nI i44))), (4, .int (nI i44)), (7, .int (swjS (v_now V) t1 (nI i44))), (6, .int (nI i44)), (3, .int (jkI (s_jok (v_now V) t1))), (0, .ref (d 0)), (1, .int (nI t1)), (2, .int z)]) hx hb dX5_bestJoker_103 hl (by decide) rfl (fun ls hl => ?_)
                refine lv_iinc (v := nI (i44 + 1)) (lv' := [(6, .int (nI (i44 + 1))), (5, .int (swjS (v_now V) t1 (nI i44))), (4, .int (nI i44)), (7, .int (swjS (v_now V) t1 (nI i44))), (3, .int (jkI (s_jok (v_now V) t1))), (0, .ref (d 0)), (1, .int (nI t1)), (2, .int z)]) hx hb dX5_bestJoker_105 hl (k := 3) rfl (nI_1 _) (by decide) rfl (fun ls hl => ?_)
                refine lv_goto (tgt := 44) hx hb dX5_bestJoker_108 (by decide) ?_
                exact ih_i44 (i44 + 1) (swjS (v_now V) t1 (nI i44)) (nI i44) _ _ (by first | exact absurd c_93 c_77 | exact absurd c_77 c_93 | exact (bes_a ho0 hK5 (by omega) (by omega) c_77).2 | exact (bes_b c_77).2) (by first | exact absurd c_93 c_77 | exact absurd c_77 c_93 | exact congrArg nI (bes_a ho0 hK5 (by omega) (by omega) c_77).1 | exact congrArg nI (bes_b c_77).1) (by first | exact absurd c_93 c_77 | exact absurd c_77 c_93 | (rw [show jvF (m_s M) (96 + 4 * t1 + 1) (i44 + 1) = nI (i44 + 1) from if_neg (Nat.succ_ne_zero _), ← up_up (f := m_s M) (a := jvF (m_s M) (96 + 4 * t1 + 1) i44)]; exact hP)) hS lt_i44 (by omega) ls (lv_sub hl [0, 1, 2, 4, 5, 6, 7] rfl)
      exact L_44 (8 + 1) 0 (-100000) 0 _ _ (rfl) (rfl) (by rw [jv_0]; exact hP) hS (Nat.zero_le _) (by omega) ls (lv_sub hl [0, 1, 2, 3, 4, 5, 6] rfl)
    · skip
      have c_16 : (inR z 0 1) = false := bI_eq c_16
      have hz2 := (in01_f c_16).1
      have hz3 := (in01_f c_16).2
      refine lv_bipush (v := (-2)) hx hb dX5_bestJoker_19 (by decide) ?_
      exact q_miret hx hb hr hlk dX5_bestJoker_21 hP hS (by simp [bejR, mstS, ct1, c_5, hz2, hz3, c_16]) (by first | rfl | exact congrArg (q_mdW g d) (bj_back (cp_jok hc0 (by omega))))
  · skip
    have c_5 : (isTm (v_now V) x) = false := bI_eq c_5
    refine lv_iconst (v := (-1)) hx hb dX5_bestJoker_8 (by decide) ?_
    exact q_miret hx hb hr hlk dX5_bestJoker_9 hP hS (by simp [bejR, mstS, c_5]) (by first | rfl | exact congrArg (q_mdW g d) (bj_back (cp_jok hc0 (by omega))))
