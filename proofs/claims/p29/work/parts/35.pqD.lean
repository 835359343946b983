/-! the two tables of the settings' ranges, that nobody writes -/
def q_ST (A : Nat → Prop) (U : State) : Prop := ∃ t u : Nat, va_Z "PubQuizzes" "LEAST" "[I" (.ref t) A U U.heap ∧ va_T .int t 4 (fun j => .int (leaS j)) A U U.heap ∧ va_Z "PubQuizzes" "GREATEST" "[I" (.ref u) A U U.heap ∧ va_T .int u 4 (fun j => .int (graS j)) A U U.heap
theorem q_ST_blind {A : Nat → Prop} : q_Blind (q_ST A) := fun a U g mk ⟨t, u, h1, h2, h3, h4⟩ =>
  ⟨t, u, va_Z.moved (u := U) (U := U.calling g mk a) (Vm.Alike.refl U.vm) h1, va_T.moved (u := U) (U := U.calling g mk a) (Vm.Alike.refl U.vm) h2, va_Z.moved (u := U) (U := U.calling g mk a) (Vm.Alike.refl U.vm) h3, va_T.moved (u := U) (U := U.calling g mk a) (Vm.Alike.refl U.vm) h4⟩
theorem q_ST_at {A A1 : Nat → Prop} {s : State} {H : Heap} {locs : List Loc} (h : q_ST A s) (hS : va_S A s.heap H locs) (hA : ∀ q, A1 q → A q) : ∀ U : State, U.heap = H → s.WarmedH U.vm → q_ST A1 U := by
  intro U hU hW
  subst hU
  obtain ⟨t, u, h1, h2, h3, h4⟩ := h
  have hk : ∀ a : Nat, a < s.heap.size → ¬ A a → U.heap[a]? = s.heap[a]? := fun a h1 h2 => hS.2.1 a h1 h2
  exact ⟨t, u, va_Z.moved hW.alike ((h1.kept hk).narrow hA), va_T.moved hW.alike ((h2.kept hk).narrow hA), va_Z.moved hW.alike ((h3.kept hk).narrow hA), va_T.moved hW.alike ((h4.kept hk).narrow hA)⟩
theorem st_ge4 {x : Int32} (h : (4 : Int32) ≤ x) : (3 : Int32) < x := by
  have h1 := Int32.le_iff_toInt_le.mp h
  have h4 : (4 : Int32).toInt = 4 := rfl
  have h3 : (3 : Int32).toInt = 3 := rfl
  exact Int32.lt_iff_toInt_lt.mpr (by omega)
theorem st_lt4 {x : Int32} (h : ¬ (4 : Int32) ≤ x) : ¬ (3 : Int32) < x := by
  intro hc
  have h1 := Int32.lt_iff_toInt_lt.mp hc
  have h4 : (4 : Int32).toInt = 4 := rfl
  have h3 : (3 : Int32).toInt = 3 := rfl
  exact h (Int32.le_iff_toInt_le.mpr (by omega))

set_option maxHeartbeats 2000000 in
set_option maxRecDepth 100000 in
theorem c_X4_set (l : Launch) (g : q_G) (a : Nat → Nat → Nat) (b : Nat → Nat) (V : q_CV) (hI : q_inj a b) (x : Int32) (y : Int32) (h1_ : v_nxt V < 6) (h2_ : v_hl V ≤ 6) : Met l yX4_set wsX4_set { frames := 3, cells := 0, slots := 0, locals := 82 } (va_Pc [.ref (b 0), .int x, .int y] (fun U => q_B g (q_pqW g a b V) U ∧ q_ST (q_adr a b) U)) (q_QM g (q_adr a b) (q_pqW g a b (setV V x y)) (some (.int (setR V x y)))) 0 0 (q_adr a b) := by
  refine q_mm (cc := cX4_set) (maxL := 4) (ret := (some .int)) (by decide) rfl (Nat.le_of_ble_eq_true rfl) ?_
  intro p e s m args below meth c ls hx hb hml hown hts hr hlk hnm hB hag hl
  obtain ⟨⟨hP, hK, hN⟩, ⟨a_LEAST, a_GREATEST, hZ_LEAST, hT_LEAST, hZ_GREATEST, hT_GREATEST⟩⟩ := hB
  have hS : va_S (q_adr a b) s.heap s.heap [] := va_S.rf
  have hP : va_P g.1 vwCl (q_pqW g a b V) s.heap := hP
  have hD : va_D (q_adr a b) (q_pqW g a b V) := q_D hI (fun _ h => h)
  have fl_12 := hts (.fieldLink RX4 12 "PubQuizzes" "now" "LPubQuizzes$State;") (by decide +kernel)
  have fl_19 := hts (.fieldLink RX4 19 "PubQuizzes" "history" "LPubQuizzes$History;") (by decide +kernel)
  have fl_49 := hts (.fieldLink RX4 49 "PubQuizzes$State" "settings" "[I") (by decide +kernel)
  have hi_X4 : ∀ w ∈ u_ws RX4 TX4 5, w ∈ wsX4_set := by decide +kernel
  have hi_X3 : ∀ w ∈ u_ws RX3 TX3 12, w ∈ wsX4_set := by decide +kernel
  have hl : lv_has ls 4 [(0, .ref (b 0)), (1, .int x), (2, .int y)] := hl
  refine lv_iload_n hx hb dX4_set_0 rfl (lv_at hl 1 rfl) ?_
  refine lv_if_lt (tgt := 27) hx hb dX4_set_1 (by decide) (fun c_1 => ?_) (fun c_1 => ?_)
  · skip
    refine lv_bipush (v := (-2)) hx hb dX4_set_27 (by decide) ?_
    exact q_miret hx hb hr hlk dX4_set_29 hP hS (by simp [setR, setV, setE, c_1]) (congrArg (q_pqW g a b) (by simp [setR, setV, setE, c_1]))
  · skip
    refine lv_iload_n hx hb dX4_set_4 rfl (lv_at hl 1 rfl) ?_
    refine lv_iconst (v := 4) hx hb dX4_set_5 (by decide) ?_
    refine lv_icmp_ge (tgt := 27) hx hb dX4_set_6 (by decide) (fun c_6 => ?_) (fun c_6 => ?_)
    · skip
      have d_6 : (3 : Int32) < x := st_ge4 c_6
      refine lv_bipush (v := (-2)) hx hb dX4_set_27 (by decide) ?_
      exact q_miret hx hb hr hlk dX4_set_29 hP hS (by simp [setR, setV, setE, c_1, d_6, c_6]) (congrArg (q_pqW g a b) (by simp [setR, setV, setE, c_1, d_6, c_6]))
    · skip
      have d_6 : ¬ (3 : Int32) < x := st_lt4 c_6
      obtain ⟨k1, hk1x, rfl⟩ := nI_of c_1
      have hk1 : k1 < 4 := by
        rcases Nat.lt_or_ge 3 k1 with q | q
        · exact absurd (nI_lt q hk1x) d_6
        · omega
      have ck1 : tN (nI k1) = k1 := tN_n (by omega)
      refine lv_iload_n hx hb dX4_set_9 rfl (lv_at hl 2 rfl) ?_
      refine va_gets (C := "PubQuizzes") (n := "LEAST") (d := "[I") hx hb hZ_LEAST hS hown (hts (.fieldLink RX4 38 "PubQuizzes" "LEAST" "[I") (by decide +kernel)) (fun _ h9 => h9) dX4_set_10 ?_
      refine lv_iload_n hx hb dX4_set_13 rfl (lv_at hl 1 rfl) ?_
      refine va_ti (v := .int (leaS k1)) hx hb hT_LEAST hS (vp_in_nI (by omega) (by decide)) (by rw [nI_clamp (by omega)]) dX4_set_14 ?_
      refine lv_icmp_lt (tgt := 27) hx hb dX4_set_15 (by decide) (fun c_15 => ?_) (fun c_15 => ?_)
      · skip
        refine lv_bipush (v := (-2)) hx hb dX4_set_27 (by decide) ?_
        exact q_miret hx hb hr hlk dX4_set_29 hP hS (by simp [setR, setV, setE, c_1, ck1, d_6, c_6, c_15]) (congrArg (q_pqW g a b) (by simp [setR, setV, setE, c_1, ck1, d_6, c_6, c_15]))
      · skip
        refine lv_iload_n hx hb dX4_set_18 rfl (lv_at hl 2 rfl) ?_
        refine va_gets (C := "PubQuizzes") (n := "GREATEST") (d := "[I") hx hb hZ_GREATEST hS hown (hts (.fieldLink RX4 42 "PubQuizzes" "GREATEST" "[I") (by decide +kernel)) (fun _ h9 => h9) dX4_set_19 ?_
        refine lv_iload_n hx hb dX4_set_22 rfl (lv_at hl 1 rfl) ?_
        refine va_ti (v := .int (graS k1)) hx hb hT_GREATEST hS (vp_in_nI (by omega) (by decide)) (by rw [nI_clamp (by omega)]) dX4_set_23 ?_
        refine lv_icmp_le (tgt := 30) hx hb dX4_set_24 (by decide) (fun c_24 => ?_) (fun c_24 => ?_)
        · skip
          refine lv_aload_n hx hb dX4_set_30 rfl (lv_at hl 0 rfl) ?_
          refine va_get (D := g.1) (ci := 3) (v := .ref (b 3)) (C := RX4) (T := TX4) (N := 5) hx hb hts hi_X4 hown hK hP 0 rfl rfl 1 (by decide) fl_19 (fun _ h9 => h9) rfl dX4_set_31 ?_
          refine lv_aload_n hx hb dX4_set_34 rfl (lv_at hl 0 rfl) ?_
          refine va_get (D := g.1) (ci := 3) (v := .ref (a 0 0)) (C := RX4) (T := TX4) (N := 5) hx hb hts hi_X4 hown hK hP 0 rfl rfl 0 (by decide) fl_12 (fun _ h9 => h9) rfl dX4_set_35 ?_
          refine q_VM (As := [.ref (a 0 0)]) (rest := []) (st2 := []) ⟨hx, hb, hml, hown, hts⟩ (c_X0_record l g a b V hI  (by first | omega | assumption) (by first | omega | assumption)) (cwV 1 hts gX4_set_X0_record rfl rfl rfl (by decide +kernel) ⟨Nat.le_of_ble_eq_true rfl, Nat.le_of_ble_eq_true rfl⟩) q_B_blind (va_recv hK hP (ci := 0) (q0 := 3) rfl rfl) (q_B_of hP hK hN) rfl hl.1 rfl (Nat.le_of_ble_eq_true rfl) dX4_set_38 (Nat.zero_le _) (Nat.zero_le _) hS (fun _ h => h) rfl rfl rfl (fun H locs hP _ hS _ => ?_)
          have hP : va_P g.1 vwCl (q_pqW g a b (v_rec V)) H := hP
          have hD : va_D (q_adr a b) (q_pqW g a b (v_rec V)) := q_D hI (fun _ h => h)
          refine lv_aload_n hx hb dX4_set_41 rfl (lv_at hl 0 rfl) ?_
          refine va_get (D := g.1) (ci := 3) (v := .ref (a 0 0)) (C := RX4) (T := TX4) (N := 5) hx hb hts hi_X4 hown hK hP 0 rfl rfl 0 (by decide) fl_12 (fun _ h9 => h9) rfl dX4_set_42 ?_
          refine va_get (D := g.1) (ci := 2) (v := .ref (a 0 1)) (C := RX3) (T := TX3) (N := 12) hx hb hts hi_X3 hown hK hP 7 rfl rfl 0 (by decide) fl_49 (fun _ h9 => h9) rfl dX4_set_45 ?_
          refine lv_iload_n hx hb dX4_set_48 rfl (lv_at hl 1 rfl) ?_
          refine q_iald (j := k1) hx hb hK hP 8 0 rfl rfl (by omega) (by decide) dX4_set_49 ?_
          refine lv_istore_n (lv' := [(3, .int (s_set (v_now V) k1)), (0, .ref (b 0)), (1, .int (nI k1)), (2, .int y)]) hx hb dX4_set_50 rfl hl (by decide) rfl (fun ls hl => ?_)
          refine lv_aload_n hx hb dX4_set_51 rfl (lv_at hl 1 rfl) ?_
          refine va_get (D := g.1) (ci := 3) (v := .ref (a 0 0)) (C := RX4) (T := TX4) (N := 5) hx hb hts hi_X4 hown hK hP 0 rfl rfl 0 (by decide) fl_12 (fun _ h9 => h9) rfl dX4_set_52 ?_
          refine va_get (D := g.1) (ci := 2) (v := .ref (a 0 1)) (C := RX3) (T := TX3) (N := 12) hx hb hts hi_X3 hown hK hP 7 rfl rfl 0 (by decide) fl_49 (fun _ h9 => h9) rfl dX4_set_55 ?_
          refine lv_iload_n hx hb dX4_set_58 rfl (lv_at hl 2 rfl) ?_
          refine lv_iload_n hx hb dX4_set_59 rfl (lv_at hl 3 rfl) ?_
          refine q_iast (j := k1) hx hb hK hP hD hS 8 0 rfl rfl (by omega) (by decide) dX4_set_60 (fun H locs hP hS => ?_)
          have hP : va_P g.1 vwCl (q_pqW g a b (w_now (v_rec V) (u_set (v_now V) (upd (s_set (v_now V)) k1 y)))) H := hP
          have hD : va_D (q_adr a b) (q_pqW g a b (w_now (v_rec V) (u_set (v_now V) (upd (s_set (v_now V)) k1 y)))) := q_D hI (fun _ h => h)
          refine lv_iload_n hx hb dX4_set_61 rfl (lv_at hl 0 rfl) ?_
          exact q_miret hx hb hr hlk dX4_set_62 hP hS (by simp [setR, setV, setE, c_1, ck1, d_6, c_6, c_15, c_24]) (congrArg (q_pqW g a b) (by simp [setR, setV, setE, c_1, ck1, d_6, c_6, c_15, c_24]))
        · skip
          refine lv_bipush (v := (-2)) hx hb dX4_set_27 (by decide) ?_
          exact q_miret hx hb hr hlk dX4_set_29 hP hS (by simp [setR, setV, setE, c_1, ck1, d_6, c_6, c_15, c_24]) (congrArg (q_pqW g a b) (by simp [setR, setV, setE, c_1, ck1, d_6, c_6, c_15, c_24]))
