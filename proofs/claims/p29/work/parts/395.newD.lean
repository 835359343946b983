/-! the class's constructor -/
def q_V0 : q_CV := (q_S0, fun _ => q_S0, 0, 0, fun _ => 0, 0, fun _ => 0)
def q_mg (n : Nat → Nat) (b c : Nat → Nat → Nat) : Nat → Nat → Nat := fun i => if i = 0 then n else if i < 7 then b i else c i
theorem q_mgP {g : q_G} {n : Nat → Nat} {b c : Nat → Nat → Nat} : q_stW g n q_S0 ++ (q_poolW g b (fun _ => q_S0) 1 6 ++ q_poolW g c (fun _ => q_S0) 7 2) = q_stW g (q_mg n b c 0) q_S0 ++ q_poolW g (q_mg n b c) (fun _ => q_S0) 1 8 := by
  rw [q_pool_app 6 1 2, q_pool_c (a := b) (a' := q_mg n b c) 6 1 (fun j h1 h2 => by unfold q_mg; rw [if_neg (by omega), if_pos (by omega)]), q_pool_c (a := c) (a' := q_mg n b c) 2 7 (fun j h1 h2 => by unfold q_mg; rw [if_neg (by omega), if_neg (by omega)])]
  rfl
set_option maxHeartbeats 4000000 in
set_option maxRecDepth 100000 in
theorem c_X4_init (l : Launch) (g : q_G) (h0 sz : Nat) : Met l yX4_init wsX4_init { frames := 3, cells := 105, slots := 2903, locals := 81 } (va_Pc [.ref h0] (q_NB3 g [(h0, .inr (3, [.null, .null, .null, .null, .null]))] sz)) (q_NQ g (va_A [(h0, .inr (3, [.null, .null, .null, .null, .null]))] sz) (X := (Nat → Nat → Nat) × (Nat → Nat)) (fun x => x.2 0 = h0) (fun x => q_pqW g x.1 x.2 q_V0)) 105 2903 (va_A [(h0, .inr (3, [.null, .null, .null, .null, .null]))] sz) := by
  refine Met.ofW (cc := cX4_init) (maxL := 2) (ret := none) (by decide) rfl ?_
  intro p e s m args below meth c s₁ B hml hv
  obtain ⟨rfl, ⟨hsz, hP, hK, hD0⟩, hO, hN⟩ := hv
  have hx := B.exec
  have hb := B.bytes
  have hr := B.returns
  have hts := atoms_spec (ws := wsX4_init) B.pre
  have hown : s.vm.findClass RX4 = some m.cls := findClass_of_methodNamed B.named
  have hlk := B.notSynchronized
  have hin : meth.name = "<init>" := (name_of_methodNamed B.named B.method).1
  subst hsz
  have hD := hD0.self (sz := s.heap.size)
  generalize hAe : va_A [(h0, .inr (3, [.null, .null, .null, .null, .null]))] s.heap.size = A at hD ⊢
  have hA : ∀ q : Nat, s.heap.size ≤ q → A q := fun q h => by rw [← hAe]; exact Or.inr h
  have hS : va_S A s.heap s.heap [] := va_S.rf
  have hl := lv_entry ([.ref h0]) (n := 2) (Nat.le_of_ble_eq_true rfl)
  rw [lg_entry_eq]
  generalize (lg_sl ([.ref h0]) ++ List.replicate (2 - (lg_sl ([.ref h0])).length) Slot.unset).toArray = ls at hl ⊢
  have hl : lv_has ls 2 [(0, .ref h0)] := hl
  have hP : va_P g.1 vwCl ([(h0, .inr (3, [.null, .null, .null, .null, .null]))]) s.heap := hP
  have hD : va_D A ([(h0, .inr (3, [.null, .null, .null, .null, .null]))]) := hD
  have hi_X4 : ∀ w ∈ u_ws RX4 TX4 5, w ∈ wsX4_init := by decide +kernel
  have hi_X0 : ∀ w ∈ u_ws RX0 TX0 3, w ∈ wsX4_init := by decide +kernel
  have hi_X1 : ∀ w ∈ u_ws RX1 TX1 2, w ∈ wsX4_init := by decide +kernel
  have hi_X3 : ∀ w ∈ u_ws RX3 TX3 12, w ∈ wsX4_init := by decide +kernel
  refine lv_aload_n hx hb dX4_init_0 rfl (lv_at hl 0 rfl) ?_
  refine W.objInit hx hb hown (hts (.methodLink RX4 3 objectInit) (by decide +kernel)) (hts (.instanceMethod objectInit) (by decide +kernel)) (hts (.code objectInit ⟨#[0xb1]⟩ 1 none) (List.mem_of_getElem? (i := 3) rfl)) rfl (by rw [hml]; exact hl.1) rfl dX4_init_1 (Nat.le_of_ble_eq_true rfl) (Nat.le_of_ble_eq_true rfl) ?_
  refine W.eq (g2 := F0 m 4 ls []) rfl ?_
  refine lv_aload_n hx hb dX4_init_4 rfl (lv_at hl 0 rfl) ?_
  refine va_new (ci := 2) (fs := [.null, .null, .null, .null, .null, .null, .null, .null, .null, .null, .int 0, .int 0]) (C := RX3) (T := TX3) (N := 12) hx hb hts hi_X3 tyX3 tyX3_ok hown (hts (.classLink RX4 9 RX3) (by decide +kernel)) (hts (.instantiable RX3 12) (by decide +kernel)) (hts (.initialized RX3) (by decide +kernel)) hK hP hD hS hA rfl (fun j hj => by rcases (show j = 0 ∨ j = 1 ∨ j = 2 ∨ j = 3 ∨ j = 4 ∨ j = 5 ∨ j = 6 ∨ j = 7 ∨ j = 8 ∨ j = 9 ∨ j = 10 ∨ j = 11 by omega) with rfl | rfl | rfl | rfl | rfl | rfl | rfl | rfl | rfl | rfl | rfl | rfl <;> rfl) (Nat.le_of_ble_eq_true rfl) (Nat.le_of_ble_eq_true rfl) dX4_init_5 (fun q5 H hP hD hS => ?_)
  have hP : va_P g.1 vwCl (([(h0, .inr (3, [.null, .null, .null, .null, .null]))]) ++ [(q5, .inr (2, [.null, .null, .null, .null, .null, .null, .null, .null, .null, .null, .int 0, .int 0]))]) H := hP
  have hD : va_D A (([(h0, .inr (3, [.null, .null, .null, .null, .null]))]) ++ [(q5, .inr (2, [.null, .null, .null, .null, .null, .null, .null, .null, .null, .null, .int 0, .int 0]))]) := hD
  refine W.widen (k := 1) (n := 12) (Nat.le_of_ble_eq_true rfl) (Nat.le_of_ble_eq_true rfl) ?_
  refine lv_dup hx hb dX4_init_8 rfl ?_
  refine q_newC (wr := [(h0, .inr (3, [.null, .null, .null, .null, .null]))]) (wc := [(q5, .inr (2, [.null, .null, .null, .null, .null, .null, .null, .null, .null, .null, .int 0, .int 0]))]) (X := Nat → Nat) (pr := fun q => q 0 = q5) (w1 := fun q => q_stW g q q_S0) (va_runI (As := []) (rest := [.ref q5, .ref h0]) ⟨hx, hb, hml, hown, hts⟩ (c_X3_init l g q5 H.size) (cwI 0 hts gX4_init_X3_init rfl rfl rfl (hts (.initialized RX3) (by decide +kernel)) (hts (.methodLink RX4 11 yX3_init) (by decide +kernel)) (hts (.instanceMethod yX3_init) (by decide +kernel)) rfl (by decide +kernel) ⟨Nat.le_of_ble_eq_true rfl, Nat.le_of_ble_eq_true rfl⟩) ⟨fun a U f mk h => ⟨h.1, q_NB_blind a U f mk h.2⟩, fun U hU hW => ⟨rfl, (q_NB_of (q_P_app.mp hP).2 hK (q_D_r hD)) U hU hW⟩⟩ rfl rfl hl.1 rfl (lv_room (Nat.le_of_ble_eq_true rfl)) dX4_init_9 ⟨(Nat.le_of_ble_eq_true rfl), (Nat.le_of_ble_eq_true rfl)⟩) hP hD hS hA rfl rfl (fun qn H1 locs1 hq hP1 hD1 hS1 => ?_)
  subst hq
  have hP := hP1
  have hD := hD1
  have hS := hS1
  refine W.widen (k := 11) (n := 312) (Nat.le_of_ble_eq_true rfl) (Nat.le_of_ble_eq_true rfl) ?_
  have hP : va_P g.1 vwCl ([(h0, .inr (3, [.null, .null, .null, .null, .null]))] ++ q_stW g qn q_S0) H1 := hP
  have hD : va_D A ([(h0, .inr (3, [.null, .null, .null, .null, .null]))] ++ q_stW g qn q_S0) := hD
  refine va_putF (D := g.1) (ci := 3) (v := .ref (qn 0)) (ty := .object "PubQuizzes$State") (C := RX4) (T := TX4) (N := 5) hx hb hts hi_X4 tyX4 tyX4_ok nmX4 hown hK hP hD hS 0 rfl rfl 0 (by decide) (hts (.fieldLink RX4 12 "PubQuizzes" "now" "LPubQuizzes$State;") (by decide +kernel)) (fun _ h9 => h9) rfl hin rfl (by decide +kernel) rfl rfl (Nat.le_of_ble_eq_true rfl) dX4_init_12 (fun H locs hP hD hS => ?_)
  have hP : va_P g.1 vwCl ([(h0, .inr (3, [.ref (qn 0), .null, .null, .null, .null]))] ++ q_stW g qn q_S0) H := hP
  have hD : va_D A ([(h0, .inr (3, [.ref (qn 0), .null, .null, .null, .null]))] ++ q_stW g qn q_S0) := hD
  refine lv_aload_n hx hb dX4_init_15 rfl (lv_at hl 0 rfl) ?_
  refine va_new (ci := 0) (fs := [.null, .int 0, .int 0]) (C := RX0) (T := TX0) (N := 3) hx hb hts hi_X0 tyX0 tyX0_ok hown (hts (.classLink RX4 16 RX0) (by decide +kernel)) (hts (.instantiable RX0 3) (by decide +kernel)) (hts (.initialized RX0) (by decide +kernel)) hK hP hD hS hA rfl (fun j hj => by rcases (show j = 0 ∨ j = 1 ∨ j = 2 by omega) with rfl | rfl | rfl <;> rfl) (Nat.le_of_ble_eq_true rfl) (Nat.le_of_ble_eq_true rfl) dX4_init_16 (fun q16 H hP hD hS => ?_)
  have hP : va_P g.1 vwCl (([(h0, .inr (3, [.ref (qn 0), .null, .null, .null, .null]))] ++ q_stW g qn q_S0) ++ [(q16, .inr (0, [.null, .int 0, .int 0]))]) H := hP
  have hD : va_D A (([(h0, .inr (3, [.ref (qn 0), .null, .null, .null, .null]))] ++ q_stW g qn q_S0) ++ [(q16, .inr (0, [.null, .int 0, .int 0]))]) := hD
  refine W.widen (k := 12) (n := 315) (Nat.le_of_ble_eq_true rfl) (Nat.le_of_ble_eq_true rfl) ?_
  refine lv_dup hx hb dX4_init_19 rfl ?_
  refine q_newC (wr := [(h0, .inr (3, [.ref (qn 0), .null, .null, .null, .null]))] ++ q_stW g qn q_S0) (wc := [(q16, .inr (0, [.null, .int 0, .int 0]))]) (X := (Nat → Nat → Nat) × Nat) (pr := fun _ => True) (w1 := fun x => [(q16, .inr (0, [.ref x.2, .int 0, .int 0])), (x.2, .inl (g.2 4, 6, .inr (.inr (.inr (.inr (fun j => some (x.1 (j + 1) 0)))))))] ++ q_poolW g x.1 (fun _ => q_S0) 1 6) (va_runI (As := []) (rest := [.ref q16, .ref h0]) ⟨hx, hb, hml, hown, hts⟩ (c_X0_init l g q16 H.size) (cwI 0 hts gX4_init_X0_init rfl rfl rfl (hts (.initialized RX0) (by decide +kernel)) (hts (.methodLink RX4 18 yX0_init) (by decide +kernel)) (hts (.instanceMethod yX0_init) (by decide +kernel)) rfl (by decide +kernel) ⟨Nat.le_of_ble_eq_true rfl, Nat.le_of_ble_eq_true rfl⟩) ⟨fun a U f mk h => ⟨h.1, q_NB3_blind a U f mk h.2⟩, fun U hU hW => ⟨rfl, (q_NB3_of (q_P_app.mp hP).2 hK (q_D_r hD) hO hN) U hU hW⟩⟩ rfl rfl hl.1 rfl (lv_room (Nat.le_of_ble_eq_true rfl)) dX4_init_20 ⟨(Nat.le_of_ble_eq_true rfl), (Nat.le_of_ble_eq_true rfl)⟩) hP hD hS hA rfl rfl (fun y H1 locs1 hq hP1 hD1 hS1 => ?_)
  have hP := hP1
  have hD := hD1
  have hS := hS1
  refine W.widen (k := 79) (n := 2193) (Nat.le_of_ble_eq_true rfl) (Nat.le_of_ble_eq_true rfl) ?_
  obtain ⟨b, qs⟩ := y
  have hP := q_P_sw4 hP
  have hD := q_D_sw4 hD
  have hP : va_P g.1 vwCl ([(h0, .inr (3, [.ref (qn 0), .null, .null, .null, .null])), (q16, .inr (0, [.ref qs, .int 0, .int 0])), (qs, .inl (g.2 4, 6, .inr (.inr (.inr (.inr (fun j => some (b (j + 1) 0)))))))] ++ (q_stW g qn q_S0 ++ q_poolW g b (fun _ => q_S0) 1 6)) H1 := hP
  have hD : va_D A ([(h0, .inr (3, [.ref (qn 0), .null, .null, .null, .null])), (q16, .inr (0, [.ref qs, .int 0, .int 0])), (qs, .inl (g.2 4, 6, .inr (.inr (.inr (.inr (fun j => some (b (j + 1) 0)))))))] ++ (q_stW g qn q_S0 ++ q_poolW g b (fun _ => q_S0) 1 6)) := hD
  refine va_putF (D := g.1) (ci := 3) (v := .ref q16) (ty := .object "PubQuizzes$History") (C := RX4) (T := TX4) (N := 5) hx hb hts hi_X4 tyX4 tyX4_ok nmX4 hown hK hP hD hS 0 rfl rfl 1 (by decide) (hts (.fieldLink RX4 19 "PubQuizzes" "history" "LPubQuizzes$History;") (by decide +kernel)) (fun _ h9 => h9) rfl hin rfl (by decide +kernel) rfl rfl (Nat.le_of_ble_eq_true rfl) dX4_init_23 (fun H locs hP hD hS => ?_)
  have hP : va_P g.1 vwCl ([(h0, .inr (3, [.ref (qn 0), .ref q16, .null, .null, .null])), (q16, .inr (0, [.ref qs, .int 0, .int 0])), (qs, .inl (g.2 4, 6, .inr (.inr (.inr (.inr (fun j => some (b (j + 1) 0)))))))] ++ (q_stW g qn q_S0 ++ q_poolW g b (fun _ => q_S0) 1 6)) H := hP
  have hD : va_D A ([(h0, .inr (3, [.ref (qn 0), .ref q16, .null, .null, .null])), (q16, .inr (0, [.ref qs, .int 0, .int 0])), (qs, .inl (g.2 4, 6, .inr (.inr (.inr (.inr (fun j => some (b (j + 1) 0)))))))] ++ (q_stW g qn q_S0 ++ q_poolW g b (fun _ => q_S0) 1 6)) := hD
  refine lv_aload_n hx hb dX4_init_26 rfl (lv_at hl 0 rfl) ?_
  refine va_new (ci := 1) (fs := [.null, .int 0]) (C := RX1) (T := TX1) (N := 2) hx hb hts hi_X1 tyX1 tyX1_ok hown (hts (.classLink RX4 23 RX1) (by decide +kernel)) (hts (.instantiable RX1 2) (by decide +kernel)) (hts (.initialized RX1) (by decide +kernel)) hK hP hD hS hA rfl (fun j hj => by rcases (show j = 0 ∨ j = 1 by omega) with rfl | rfl <;> rfl) (Nat.le_of_ble_eq_true rfl) (Nat.le_of_ble_eq_true rfl) dX4_init_27 (fun q27 H hP hD hS => ?_)
  have hP : va_P g.1 vwCl (([(h0, .inr (3, [.ref (qn 0), .ref q16, .null, .null, .null])), (q16, .inr (0, [.ref qs, .int 0, .int 0])), (qs, .inl (g.2 4, 6, .inr (.inr (.inr (.inr (fun j => some (b (j + 1) 0)))))))] ++ (q_stW g qn q_S0 ++ q_poolW g b (fun _ => q_S0) 1 6)) ++ [(q27, .inr (1, [.null, .int 0]))]) H := hP
  have hD : va_D A (([(h0, .inr (3, [.ref (qn 0), .ref q16, .null, .null, .null])), (q16, .inr (0, [.ref qs, .int 0, .int 0])), (qs, .inl (g.2 4, 6, .inr (.inr (.inr (.inr (fun j => some (b (j + 1) 0)))))))] ++ (q_stW g qn q_S0 ++ q_poolW g b (fun _ => q_S0) 1 6)) ++ [(q27, .inr (1, [.null, .int 0]))]) := hD
  refine W.widen (k := 80) (n := 2195) (Nat.le_of_ble_eq_true rfl) (Nat.le_of_ble_eq_true rfl) ?_
  refine lv_dup hx hb dX4_init_30 rfl ?_
  refine q_newC (wr := [(h0, .inr (3, [.ref (qn 0), .ref q16, .null, .null, .null])), (q16, .inr (0, [.ref qs, .int 0, .int 0])), (qs, .inl (g.2 4, 6, .inr (.inr (.inr (.inr (fun j => some (b (j + 1) 0)))))))] ++ (q_stW g qn q_S0 ++ q_poolW g b (fun _ => q_S0) 1 6)) (wc := [(q27, .inr (1, [.null, .int 0]))]) (X := Nat) (pr := fun _ => True) (w1 := fun q => [(q27, .inr (1, [.ref q, .int 0])), (q, .inl (g.2 0, 80, .inl (fun _ => 0)))]) (va_runIN (As := []) (rest := [.ref q27, .ref h0]) ⟨hx, hb, hml, hown, hts⟩ (c_X1_init l g q27 H.size) ⟨va_cnB 0 hts gX4_init_X1_init_n25 rfl rfl rfl hN (hts (.initialized RX1) (by decide +kernel)) (by decide +kernel) ⟨Nat.le_of_ble_eq_true rfl, Nat.le_of_ble_eq_true rfl⟩, rfl, hts (.instanceMethod yX1_init) (by decide +kernel)⟩ ⟨fun a U f mk h => ⟨h.1, q_NB_blind a U f mk h.2⟩, fun U hU hW => ⟨rfl, (q_NB_of (q_P_app.mp hP).2 hK (q_D_r hD)) U hU hW⟩⟩ rfl rfl hl.1 rfl (lv_room (Nat.le_of_ble_eq_true rfl)) dX4_init_31 ⟨(Nat.le_of_ble_eq_true rfl), (Nat.le_of_ble_eq_true rfl)⟩) hP hD hS hA rfl rfl (fun qc H1 locs1 hq hP1 hD1 hS1 => ?_)
  have hP := hP1
  have hD := hD1
  have hS := hS1
  refine W.widen (k := 81) (n := 2275) (Nat.le_of_ble_eq_true rfl) (Nat.le_of_ble_eq_true rfl) ?_
  have hP : va_P g.1 vwCl (([(h0, .inr (3, [.ref (qn 0), .ref q16, .null, .null, .null]))] ++ ([(q16, .inr (0, [.ref qs, .int 0, .int 0])), (qs, .inl (g.2 4, 6, .inr (.inr (.inr (.inr (fun j => some (b (j + 1) 0)))))))] ++ (q_stW g qn q_S0 ++ q_poolW g b (fun _ => q_S0) 1 6))) ++ [(q27, .inr (1, [.ref qc, .int 0])), (qc, .inl (g.2 0, 80, .inl (fun _ => 0)))]) H1 := hP
  have hD : va_D A (([(h0, .inr (3, [.ref (qn 0), .ref q16, .null, .null, .null]))] ++ ([(q16, .inr (0, [.ref qs, .int 0, .int 0])), (qs, .inl (g.2 4, 6, .inr (.inr (.inr (.inr (fun j => some (b (j + 1) 0)))))))] ++ (q_stW g qn q_S0 ++ q_poolW g b (fun _ => q_S0) 1 6))) ++ [(q27, .inr (1, [.ref qc, .int 0])), (qc, .inl (g.2 0, 80, .inl (fun _ => 0)))]) := hD
  have hP := hP.swap
  have hD := hD.swap
  have hP : va_P g.1 vwCl ([(h0, .inr (3, [.ref (qn 0), .ref q16, .null, .null, .null])), (q27, .inr (1, [.ref qc, .int 0])), (qc, .inl (g.2 0, 80, .inl (fun _ => 0))), (q16, .inr (0, [.ref qs, .int 0, .int 0])), (qs, .inl (g.2 4, 6, .inr (.inr (.inr (.inr (fun j => some (b (j + 1) 0)))))))] ++ (q_stW g qn q_S0 ++ q_poolW g b (fun _ => q_S0) 1 6)) H1 := hP
  have hD : va_D A ([(h0, .inr (3, [.ref (qn 0), .ref q16, .null, .null, .null])), (q27, .inr (1, [.ref qc, .int 0])), (qc, .inl (g.2 0, 80, .inl (fun _ => 0))), (q16, .inr (0, [.ref qs, .int 0, .int 0])), (qs, .inl (g.2 4, 6, .inr (.inr (.inr (.inr (fun j => some (b (j + 1) 0)))))))] ++ (q_stW g qn q_S0 ++ q_poolW g b (fun _ => q_S0) 1 6)) := hD
  refine va_putF (D := g.1) (ci := 3) (v := .ref q27) (ty := .object "PubQuizzes$Pad") (C := RX4) (T := TX4) (N := 5) hx hb hts hi_X4 tyX4 tyX4_ok nmX4 hown hK hP hD hS 0 rfl rfl 2 (by decide) (hts (.fieldLink RX4 26 "PubQuizzes" "pad" "LPubQuizzes$Pad;") (by decide +kernel)) (fun _ h9 => h9) rfl hin rfl (by decide +kernel) rfl rfl (Nat.le_of_ble_eq_true rfl) dX4_init_34 (fun H locs hP hD hS => ?_)
  have hP : va_P g.1 vwCl ([(h0, .inr (3, [.ref (qn 0), .ref q16, .ref q27, .null, .null])), (q27, .inr (1, [.ref qc, .int 0])), (qc, .inl (g.2 0, 80, .inl (fun _ => 0))), (q16, .inr (0, [.ref qs, .int 0, .int 0])), (qs, .inl (g.2 4, 6, .inr (.inr (.inr (.inr (fun j => some (b (j + 1) 0)))))))] ++ (q_stW g qn q_S0 ++ q_poolW g b (fun _ => q_S0) 1 6)) H := hP
  have hD : va_D A ([(h0, .inr (3, [.ref (qn 0), .ref q16, .ref q27, .null, .null])), (q27, .inr (1, [.ref qc, .int 0])), (qc, .inl (g.2 0, 80, .inl (fun _ => 0))), (q16, .inr (0, [.ref qs, .int 0, .int 0])), (qs, .inl (g.2 4, 6, .inr (.inr (.inr (.inr (fun j => some (b (j + 1) 0)))))))] ++ (q_stW g qn q_S0 ++ q_poolW g b (fun _ => q_S0) 1 6)) := hD
  refine lv_aload_n hx hb dX4_init_37 rfl (lv_at hl 0 rfl) ?_
  refine lv_iconst (v := 2) hx hb dX4_init_38 (by decide) ?_
  refine va_newq (C := RX3) (N' := 2) hx hb hown (hts (.classLink RX4 9 RX3) (by decide +kernel)) hO hK hP hD hS hA (by decide) (by decide) (Nat.le_of_ble_eq_true rfl) (Nat.le_of_ble_eq_true rfl) (Nat.le_of_ble_eq_true rfl) dX4_init_39 (fun q39 cA H hK9 hP hD hS => ?_)
  have hcA := q_cA4 hK9
  subst hcA
  have hP : va_P g.1 vwCl (([(h0, .inr (3, [.ref (qn 0), .ref q16, .ref q27, .null, .null])), (q27, .inr (1, [.ref qc, .int 0])), (qc, .inl (g.2 0, 80, .inl (fun _ => 0))), (q16, .inr (0, [.ref qs, .int 0, .int 0])), (qs, .inl (g.2 4, 6, .inr (.inr (.inr (.inr (fun j => some (b (j + 1) 0)))))))] ++ (q_stW g qn q_S0 ++ q_poolW g b (fun _ => q_S0) 1 6)) ++ [(q39, .inl (g.2 4, 2, .inr (.inr (.inr (.inr (fun _ => none))))))]) H := hP
  have hD : va_D A (([(h0, .inr (3, [.ref (qn 0), .ref q16, .ref q27, .null, .null])), (q27, .inr (1, [.ref qc, .int 0])), (qc, .inl (g.2 0, 80, .inl (fun _ => 0))), (q16, .inr (0, [.ref qs, .int 0, .int 0])), (qs, .inl (g.2 4, 6, .inr (.inr (.inr (.inr (fun j => some (b (j + 1) 0)))))))] ++ (q_stW g qn q_S0 ++ q_poolW g b (fun _ => q_S0) 1 6)) ++ [(q39, .inl (g.2 4, 2, .inr (.inr (.inr (.inr (fun _ => none))))))]) := hD
  have hP := hP.swap
  have hD := hD.swap
  have hP : va_P g.1 vwCl ([(h0, .inr (3, [.ref (qn 0), .ref q16, .ref q27, .null, .null])), (q27, .inr (1, [.ref qc, .int 0])), (qc, .inl (g.2 0, 80, .inl (fun _ => 0))), (q16, .inr (0, [.ref qs, .int 0, .int 0])), (qs, .inl (g.2 4, 6, .inr (.inr (.inr (.inr (fun j => some (b (j + 1) 0))))))), (q39, .inl (g.2 4, 2, .inr (.inr (.inr (.inr (fun _ => none))))))] ++ (q_stW g qn q_S0 ++ q_poolW g b (fun _ => q_S0) 1 6)) H := hP
  have hD : va_D A ([(h0, .inr (3, [.ref (qn 0), .ref q16, .ref q27, .null, .null])), (q27, .inr (1, [.ref qc, .int 0])), (qc, .inl (g.2 0, 80, .inl (fun _ => 0))), (q16, .inr (0, [.ref qs, .int 0, .int 0])), (qs, .inl (g.2 4, 6, .inr (.inr (.inr (.inr (fun j => some (b (j + 1) 0))))))), (q39, .inl (g.2 4, 2, .inr (.inr (.inr (.inr (fun _ => none))))))] ++ (q_stW g qn q_S0 ++ q_poolW g b (fun _ => q_S0) 1 6)) := hD
  refine W.widen (k := 82) (n := 2277) (Nat.le_of_ble_eq_true rfl) (Nat.le_of_ble_eq_true rfl) ?_
  refine va_putF (D := g.1) (ci := 3) (v := .ref q39) (ty := .array (.object "PubQuizzes$State")) (C := RX4) (T := TX4) (N := 5) hx hb hts hi_X4 tyX4 tyX4_ok nmX4 hown hK hP hD hS 0 rfl rfl 3 (by decide) (hts (.fieldLink RX4 30 "PubQuizzes" "slots" "[LPubQuizzes$State;") (by decide +kernel)) (fun _ h9 => h9) rfl hin rfl (by decide +kernel) rfl rfl (Nat.le_of_ble_eq_true rfl) dX4_init_42 (fun H locs hP hD hS => ?_)
  have hP : va_P g.1 vwCl ([(h0, .inr (3, [.ref (qn 0), .ref q16, .ref q27, .ref q39, .null])), (q27, .inr (1, [.ref qc, .int 0])), (qc, .inl (g.2 0, 80, .inl (fun _ => 0))), (q16, .inr (0, [.ref qs, .int 0, .int 0])), (qs, .inl (g.2 4, 6, .inr (.inr (.inr (.inr (fun j => some (b (j + 1) 0))))))), (q39, .inl (g.2 4, 2, .inr (.inr (.inr (.inr (fun _ => none))))))] ++ (q_stW g qn q_S0 ++ q_poolW g b (fun _ => q_S0) 1 6)) H := hP
  have hD : va_D A ([(h0, .inr (3, [.ref (qn 0), .ref q16, .ref q27, .ref q39, .null])), (q27, .inr (1, [.ref qc, .int 0])), (qc, .inl (g.2 0, 80, .inl (fun _ => 0))), (q16, .inr (0, [.ref qs, .int 0, .int 0])), (qs, .inl (g.2 4, 6, .inr (.inr (.inr (.inr (fun j => some (b (j + 1) 0))))))), (q39, .inl (g.2 4, 2, .inr (.inr (.inr (.inr (fun _ => none))))))] ++ (q_stW g qn q_S0 ++ q_poolW g b (fun _ => q_S0) 1 6)) := hD
  refine lv_aload_n hx hb dX4_init_45 rfl (lv_at hl 0 rfl) ?_
  refine lv_iconst (v := 2) hx hb dX4_init_46 (by decide) ?_
  refine va_newa (atype := .boolean) (ty := .boolean) (N' := 2) (a0 := (2, .inl (fun _ => 0))) hx hb (hts (.arrayClass .boolean) (by decide +kernel)) rfl hK hP hD hS hA (fun _ => rfl) (by decide) (by decide) (Nat.le_of_ble_eq_true rfl) (Nat.le_of_ble_eq_true rfl) (Nat.le_of_ble_eq_true rfl) dX4_init_47 (fun q47 cA H hK9 hP hD hS => ?_)
  have hcA := q_cA2 hK9
  subst hcA
  have hP : va_P g.1 vwCl (([(h0, .inr (3, [.ref (qn 0), .ref q16, .ref q27, .ref q39, .null])), (q27, .inr (1, [.ref qc, .int 0])), (qc, .inl (g.2 0, 80, .inl (fun _ => 0))), (q16, .inr (0, [.ref qs, .int 0, .int 0])), (qs, .inl (g.2 4, 6, .inr (.inr (.inr (.inr (fun j => some (b (j + 1) 0))))))), (q39, .inl (g.2 4, 2, .inr (.inr (.inr (.inr (fun _ => none))))))] ++ (q_stW g qn q_S0 ++ q_poolW g b (fun _ => q_S0) 1 6)) ++ [(q47, .inl (g.2 2, 2, .inl (fun _ => 0)))]) H := hP
  have hD : va_D A (([(h0, .inr (3, [.ref (qn 0), .ref q16, .ref q27, .ref q39, .null])), (q27, .inr (1, [.ref qc, .int 0])), (qc, .inl (g.2 0, 80, .inl (fun _ => 0))), (q16, .inr (0, [.ref qs, .int 0, .int 0])), (qs, .inl (g.2 4, 6, .inr (.inr (.inr (.inr (fun j => some (b (j + 1) 0))))))), (q39, .inl (g.2 4, 2, .inr (.inr (.inr (.inr (fun _ => none))))))] ++ (q_stW g qn q_S0 ++ q_poolW g b (fun _ => q_S0) 1 6)) ++ [(q47, .inl (g.2 2, 2, .inl (fun _ => 0)))]) := hD
  have hP := hP.swap
  have hD := hD.swap
  have hP : va_P g.1 vwCl ([(h0, .inr (3, [.ref (qn 0), .ref q16, .ref q27, .ref q39, .null])), (q27, .inr (1, [.ref qc, .int 0])), (qc, .inl (g.2 0, 80, .inl (fun _ => 0))), (q16, .inr (0, [.ref qs, .int 0, .int 0])), (qs, .inl (g.2 4, 6, .inr (.inr (.inr (.inr (fun j => some (b (j + 1) 0))))))), (q39, .inl (g.2 4, 2, .inr (.inr (.inr (.inr (fun _ => none)))))), (q47, .inl (g.2 2, 2, .inl (fun _ => 0)))] ++ (q_stW g qn q_S0 ++ q_poolW g b (fun _ => q_S0) 1 6)) H := hP
  have hD : va_D A ([(h0, .inr (3, [.ref (qn 0), .ref q16, .ref q27, .ref q39, .null])), (q27, .inr (1, [.ref qc, .int 0])), (qc, .inl (g.2 0, 80, .inl (fun _ => 0))), (q16, .inr (0, [.ref qs, .int 0, .int 0])), (qs, .inl (g.2 4, 6, .inr (.inr (.inr (.inr (fun j => some (b (j + 1) 0))))))), (q39, .inl (g.2 4, 2, .inr (.inr (.inr (.inr (fun _ => none)))))), (q47, .inl (g.2 2, 2, .inl (fun _ => 0)))] ++ (q_stW g qn q_S0 ++ q_poolW g b (fun _ => q_S0) 1 6)) := hD
  refine W.widen (k := 83) (n := 2279) (Nat.le_of_ble_eq_true rfl) (Nat.le_of_ble_eq_true rfl) ?_
  refine va_putF (D := g.1) (ci := 3) (v := .ref q47) (ty := .array .boolean) (C := RX4) (T := TX4) (N := 5) hx hb hts hi_X4 tyX4 tyX4_ok nmX4 hown hK hP hD hS 0 rfl rfl 4 (by decide) (hts (.fieldLink RX4 34 "PubQuizzes" "saved" "[Z") (by decide +kernel)) (fun _ h9 => h9) rfl hin rfl (by decide +kernel) rfl rfl (Nat.le_of_ble_eq_true rfl) dX4_init_49 (fun H locs hP hD hS => ?_)
  have hP : va_P g.1 vwCl ([(h0, .inr (3, [.ref (qn 0), .ref q16, .ref q27, .ref q39, .ref q47])), (q27, .inr (1, [.ref qc, .int 0])), (qc, .inl (g.2 0, 80, .inl (fun _ => 0))), (q16, .inr (0, [.ref qs, .int 0, .int 0])), (qs, .inl (g.2 4, 6, .inr (.inr (.inr (.inr (fun j => some (b (j + 1) 0))))))), (q39, .inl (g.2 4, 2, .inr (.inr (.inr (.inr (fun _ => none)))))), (q47, .inl (g.2 2, 2, .inl (fun _ => 0)))] ++ (q_stW g qn q_S0 ++ q_poolW g b (fun _ => q_S0) 1 6)) H := hP
  have hD : va_D A ([(h0, .inr (3, [.ref (qn 0), .ref q16, .ref q27, .ref q39, .ref q47])), (q27, .inr (1, [.ref qc, .int 0])), (qc, .inl (g.2 0, 80, .inl (fun _ => 0))), (q16, .inr (0, [.ref qs, .int 0, .int 0])), (qs, .inl (g.2 4, 6, .inr (.inr (.inr (.inr (fun j => some (b (j + 1) 0))))))), (q39, .inl (g.2 4, 2, .inr (.inr (.inr (.inr (fun _ => none)))))), (q47, .inl (g.2 2, 2, .inl (fun _ => 0)))] ++ (q_stW g qn q_S0 ++ q_poolW g b (fun _ => q_S0) 1 6)) := hD
  refine lv_iconst (v := 0) hx hb dX4_init_52 (by decide) ?_
  refine lv_istore_n (lv' := [(1, .int 0), (0, .ref h0)]) hx hb dX4_init_53 rfl hl (by decide) rfl (fun ls hl => ?_)
  have L : ∀ (fu i : Nat) (b2 : Nat → Nat → Nat) (H : Heap) (locs : List Loc), va_P g.1 vwCl ([(h0, .inr (3, [.ref (qn 0), .ref q16, .ref q27, .ref q39, .ref q47])), (q27, .inr (1, [.ref qc, .int 0])), (qc, .inl (g.2 0, 80, .inl (fun _ => 0))), (q16, .inr (0, [.ref qs, .int 0, .int 0])), (qs, .inl (g.2 4, 6, .inr (.inr (.inr (.inr (fun j => some (b (j + 1) 0))))))), (q39, .inl (g.2 4, 2, .inr (.inr (.inr (.inr (rfF b2 7 i)))))), (q47, .inl (g.2 2, 2, .inl (fun _ => 0)))] ++ ((q_stW g qn q_S0 ++ q_poolW g b (fun _ => q_S0) 1 6) ++ q_poolW g b2 (fun _ => q_S0) 7 i)) H → va_D A ([(h0, .inr (3, [.ref (qn 0), .ref q16, .ref q27, .ref q39, .ref q47])), (q27, .inr (1, [.ref qc, .int 0])), (qc, .inl (g.2 0, 80, .inl (fun _ => 0))), (q16, .inr (0, [.ref qs, .int 0, .int 0])), (qs, .inl (g.2 4, 6, .inr (.inr (.inr (.inr (fun j => some (b (j + 1) 0))))))), (q39, .inl (g.2 4, 2, .inr (.inr (.inr (.inr (rfF b2 7 i)))))), (q47, .inl (g.2 2, 2, .inl (fun _ => 0)))] ++ ((q_stW g qn q_S0 ++ q_poolW g b (fun _ => q_S0) 1 6) ++ q_poolW g b2 (fun _ => q_S0) 7 i)) → va_S A s.heap H locs → i ≤ 2 → 2 < i + fu → ∀ ls : Array Slot, lv_has ls 2 [(1, .int (nI i)), (0, .ref h0)] → W p l e { frames := 3, cells := 105, slots := 2903, locals := 81 } s m ([Value.ref h0] : List Value).toArray below meth c H locs (83 + 11 * i) (2279 + 312 * i) (MQ below (q_NQ g A (X := (Nat → Nat → Nat) × (Nat → Nat)) (fun x => x.2 0 = h0) (fun x => q_pqW g x.1 x.2 q_V0)) ([Value.ref h0] : List Value).toArray s 105 2903 A) (F0 m 54 ls []) := by
    intro fu
    induction fu with
    | zero => intro i b2 H locs hP hD hS hi hn; exact absurd hn (by omega)
    | succ fu ih =>
      intro i b2 H locs hP hD hS hi hn ls hl
      refine lv_iload_n hx hb dX4_init_54 rfl (lv_at hl 0 rfl) ?_
      refine lv_iconst (v := 2) hx hb dX4_init_55 (by decide) ?_
      refine lv_icmp_ge (tgt := 78) hx hb dX4_init_56 (by decide) (fun c1 => ?_) (fun c1 => ?_)
      · skip
        have e1 : i = 2 := q_ge_T (by omega) hi c1
        subst e1
        have hP := q_Pref (k := 5) (f' := fun j => some (q_mg qn b b2 (j + 7) 0)) hP rfl (fun j hj => by unfold rfF q_mg; rw [if_pos hj, if_neg (by omega), if_neg (by omega)])
        have hD := q_Dset (k := 5) (e1 := .inl (g.2 4, 2, .inr (.inr (.inr (.inr (fun j => some (q_mg qn b b2 (j + 7) 0))))))) hD rfl
        have hP := q_Pref (k := 4) (f' := fun j => some (q_mg qn b b2 (j + 1) 0)) hP rfl (fun j hj => by unfold q_mg; rw [if_neg (by omega), if_pos (by omega)])
        have hD := q_Dset (k := 4) (e1 := .inl (g.2 4, 6, .inr (.inr (.inr (.inr (fun j => some (q_mg qn b b2 (j + 1) 0))))))) hD rfl
        have eW : [(h0, .inr (3, [.ref (qn 0), .ref q16, .ref q27, .ref q39, .ref q47])), (q27, .inr (1, [.ref qc, .int 0])), (qc, .inl (g.2 0, 80, .inl (fun _ => 0))), (q16, .inr (0, [.ref qs, .int 0, .int 0])), (qs, .inl (g.2 4, 6, .inr (.inr (.inr (.inr (fun j => some (q_mg qn b b2 (j + 1) 0))))))), (q39, .inl (g.2 4, 2, .inr (.inr (.inr (.inr (fun j => some (q_mg qn b b2 (j + 7) 0))))))), (q47, .inl (g.2 2, 2, .inl (fun _ => 0)))] ++ ((q_stW g qn q_S0 ++ q_poolW g b (fun _ => q_S0) 1 6) ++ q_poolW g b2 (fun _ => q_S0) 7 2) = q_pqW g (q_mg qn b b2) (fun k => [h0, q27, qc, q16, qs, q39, q47].getD k 0) q_V0 := by
          rw [List.append_assoc, q_mgP]; rfl
        have hP : va_P g.1 vwCl (q_pqW g (q_mg qn b b2) (fun k => [h0, q27, qc, q16, qs, q39, q47].getD k 0) q_V0) H := by rw [← eW]; exact hP
        have hD : va_D A (q_pqW g (q_mg qn b b2) (fun k => [h0, q27, qc, q16, qs, q39, q47].getD k 0) q_V0) := by rw [← eW]; exact hD
        exact W.vret hx hb hr (fun t ht _ => ⟨⟨(), rfl, trivial, (q_mg qn b b2, (fun k => [h0, q27, qc, q16, qs, q39, q47].getD k 0)), rfl, by rw [ht]; exact hP, hD⟩, hS.F ht⟩) hS.2.2 dX4_init_78 hlk
      · skip
        have lt : i < 2 := q_ge_F (by omega) hi c1
        refine lv_aload_n hx hb dX4_init_59 rfl (lv_at hl 1 rfl) ?_
        refine va_get (D := g.1) (ci := 3) (v := .ref q39) (C := RX4) (T := TX4) (N := 5) hx hb hts hi_X4 hown hK hP 0 rfl rfl 3 (by decide) (hts (.fieldLink RX4 30 "PubQuizzes" "slots" "[LPubQuizzes$State;") (by decide +kernel)) (fun _ h9 => h9) rfl dX4_init_60 ?_
        refine lv_iload_n hx hb dX4_init_63 rfl (lv_at hl 0 rfl) ?_
        refine va_new (ci := 2) (fs := [.null, .null, .null, .null, .null, .null, .null, .null, .null, .null, .int 0, .int 0]) (C := RX3) (T := TX3) (N := 12) hx hb hts hi_X3 tyX3 tyX3_ok hown (hts (.classLink RX4 9 RX3) (by decide +kernel)) (hts (.instantiable RX3 12) (by decide +kernel)) (hts (.initialized RX3) (by decide +kernel)) hK hP hD hS hA rfl (fun j hj => by rcases (show j = 0 ∨ j = 1 ∨ j = 2 ∨ j = 3 ∨ j = 4 ∨ j = 5 ∨ j = 6 ∨ j = 7 ∨ j = 8 ∨ j = 9 ∨ j = 10 ∨ j = 11 by omega) with rfl | rfl | rfl | rfl | rfl | rfl | rfl | rfl | rfl | rfl | rfl | rfl <;> rfl) (show 83 + 11 * i + 1 ≤ 105 by omega) (show 2279 + 312 * i + 12 ≤ 2903 by omega) dX4_init_64 (fun q64 H hP hD hS => ?_)
        have hP : va_P g.1 vwCl (([(h0, .inr (3, [.ref (qn 0), .ref q16, .ref q27, .ref q39, .ref q47])), (q27, .inr (1, [.ref qc, .int 0])), (qc, .inl (g.2 0, 80, .inl (fun _ => 0))), (q16, .inr (0, [.ref qs, .int 0, .int 0])), (qs, .inl (g.2 4, 6, .inr (.inr (.inr (.inr (fun j => some (b (j + 1) 0))))))), (q39, .inl (g.2 4, 2, .inr (.inr (.inr (.inr (rfF b2 7 i)))))), (q47, .inl (g.2 2, 2, .inl (fun _ => 0)))] ++ ((q_stW g qn q_S0 ++ q_poolW g b (fun _ => q_S0) 1 6) ++ q_poolW g b2 (fun _ => q_S0) 7 i)) ++ [(q64, .inr (2, [.null, .null, .null, .null, .null, .null, .null, .null, .null, .null, .int 0, .int 0]))]) H := hP
        have hD : va_D A (([(h0, .inr (3, [.ref (qn 0), .ref q16, .ref q27, .ref q39, .ref q47])), (q27, .inr (1, [.ref qc, .int 0])), (qc, .inl (g.2 0, 80, .inl (fun _ => 0))), (q16, .inr (0, [.ref qs, .int 0, .int 0])), (qs, .inl (g.2 4, 6, .inr (.inr (.inr (.inr (fun j => some (b (j + 1) 0))))))), (q39, .inl (g.2 4, 2, .inr (.inr (.inr (.inr (rfF b2 7 i)))))), (q47, .inl (g.2 2, 2, .inl (fun _ => 0)))] ++ ((q_stW g qn q_S0 ++ q_poolW g b (fun _ => q_S0) 1 6) ++ q_poolW g b2 (fun _ => q_S0) 7 i)) ++ [(q64, .inr (2, [.null, .null, .null, .null, .null, .null, .null, .null, .null, .null, .int 0, .int 0]))]) := hD
        refine lv_dup hx hb dX4_init_67 rfl ?_
        refine q_newC (wr := [(h0, .inr (3, [.ref (qn 0), .ref q16, .ref q27, .ref q39, .ref q47])), (q27, .inr (1, [.ref qc, .int 0])), (qc, .inl (g.2 0, 80, .inl (fun _ => 0))), (q16, .inr (0, [.ref qs, .int 0, .int 0])), (qs, .inl (g.2 4, 6, .inr (.inr (.inr (.inr (fun j => some (b (j + 1) 0))))))), (q39, .inl (g.2 4, 2, .inr (.inr (.inr (.inr (rfF b2 7 i)))))), (q47, .inl (g.2 2, 2, .inl (fun _ => 0)))] ++ ((q_stW g qn q_S0 ++ q_poolW g b (fun _ => q_S0) 1 6) ++ q_poolW g b2 (fun _ => q_S0) 7 i)) (wc := [(q64, .inr (2, [.null, .null, .null, .null, .null, .null, .null, .null, .null, .null, .int 0, .int 0]))]) (X := Nat → Nat) (pr := fun q => q 0 = q64) (w1 := fun q => q_stW g q q_S0) (va_runI (As := []) (rest := [.ref q64, .int (nI i), .ref q39]) ⟨hx, hb, hml, hown, hts⟩ (c_X3_init l g q64 H.size) (cwI 0 hts gX4_init_X3_init rfl rfl rfl (hts (.initialized RX3) (by decide +kernel)) (hts (.methodLink RX4 11 yX3_init) (by decide +kernel)) (hts (.instanceMethod yX3_init) (by decide +kernel)) rfl (by decide +kernel) ⟨Nat.le_of_ble_eq_true rfl, Nat.le_of_ble_eq_true rfl⟩) ⟨fun a U f mk h => ⟨h.1, q_NB_blind a U f mk h.2⟩, fun U hU hW => ⟨rfl, (q_NB_of (q_P_app.mp hP).2 hK (q_D_r hD)) U hU hW⟩⟩ rfl rfl hl.1 rfl (lv_room (Nat.le_of_ble_eq_true rfl)) dX4_init_68 ⟨(show 83 + 11 * i + 1 + 10 ≤ 105 by omega), (show 2279 + 312 * i + 12 + 300 ≤ 2903 by omega)⟩) hP hD hS hA rfl rfl (fun q H1 locs1 hq hP1 hD1 hS1 => ?_)
        subst hq
        have hP := hP1
        have hD := hD1
        have hS := hS1
        have hP := hP.swap
        have hD := hD.swap
        refine va_astq (r := (RX3, TX3, 12)) hx hb hK hP hD hS 5 4 7 2 rfl rfl rfl rfl (vp_in_nI lt (by decide)) dX4_init_71 (fun H locs hP hD hS => ?_)
        rw [nI_clamp (by omega)] at hP hD
        have hP : va_P g.1 vwCl (([(h0, .inr (3, [.ref (qn 0), .ref q16, .ref q27, .ref q39, .ref q47])), (q27, .inr (1, [.ref qc, .int 0])), (qc, .inl (g.2 0, 80, .inl (fun _ => 0))), (q16, .inr (0, [.ref qs, .int 0, .int 0])), (qs, .inl (g.2 4, 6, .inr (.inr (.inr (.inr (fun j => some (b (j + 1) 0))))))), (q39, .inl (g.2 4, 2, .inr (.inr (.inr (.inr (va_up (rfF b2 7 i) i (some (q 0)))))))), (q47, .inl (g.2 2, 2, .inl (fun _ => 0)))] ++ q_stW g q q_S0) ++ ((q_stW g qn q_S0 ++ q_poolW g b (fun _ => q_S0) 1 6) ++ q_poolW g b2 (fun _ => q_S0) 7 i)) H := hP
        have hD : va_D A (([(h0, .inr (3, [.ref (qn 0), .ref q16, .ref q27, .ref q39, .ref q47])), (q27, .inr (1, [.ref qc, .int 0])), (qc, .inl (g.2 0, 80, .inl (fun _ => 0))), (q16, .inr (0, [.ref qs, .int 0, .int 0])), (qs, .inl (g.2 4, 6, .inr (.inr (.inr (.inr (fun j => some (b (j + 1) 0))))))), (q39, .inl (g.2 4, 2, .inr (.inr (.inr (.inr (va_up (rfF b2 7 i) i (some (q 0)))))))), (q47, .inl (g.2 2, 2, .inl (fun _ => 0)))] ++ q_stW g q q_S0) ++ ((q_stW g qn q_S0 ++ q_poolW g b (fun _ => q_S0) 1 6) ++ q_poolW g b2 (fun _ => q_S0) 7 i)) := hD
        have hP := hP.swap
        have hD := hD.swap
        have eW : ([(h0, .inr (3, [.ref (qn 0), .ref q16, .ref q27, .ref q39, .ref q47])), (q27, .inr (1, [.ref qc, .int 0])), (qc, .inl (g.2 0, 80, .inl (fun _ => 0))), (q16, .inr (0, [.ref qs, .int 0, .int 0])), (qs, .inl (g.2 4, 6, .inr (.inr (.inr (.inr (fun j => some (b (j + 1) 0))))))), (q39, .inl (g.2 4, 2, .inr (.inr (.inr (.inr (va_up (rfF b2 7 i) i (some (q 0)))))))), (q47, .inl (g.2 2, 2, .inl (fun _ => 0)))] ++ ((q_stW g qn q_S0 ++ q_poolW g b (fun _ => q_S0) 1 6) ++ q_poolW g b2 (fun _ => q_S0) 7 i)) ++ q_stW g q q_S0 = [(h0, .inr (3, [.ref (qn 0), .ref q16, .ref q27, .ref q39, .ref q47])), (q27, .inr (1, [.ref qc, .int 0])), (qc, .inl (g.2 0, 80, .inl (fun _ => 0))), (q16, .inr (0, [.ref qs, .int 0, .int 0])), (qs, .inl (g.2 4, 6, .inr (.inr (.inr (.inr (fun j => some (b (j + 1) 0))))))), (q39, .inl (g.2 4, 2, .inr (.inr (.inr (.inr (rfF (va_up b2 (i + 7) q) 7 (i + 1))))))), (q47, .inl (g.2 2, 2, .inl (fun _ => 0)))] ++ ((q_stW g qn q_S0 ++ q_poolW g b (fun _ => q_S0) 1 6) ++ q_poolW g (va_up b2 (i + 7) q) (fun _ => q_S0) 7 (i + 1)) := by
          rw [q_pool_n 7 i, rf_s 7 i]; simp only [List.append_assoc]
        rw [eW] at hP hD
        refine lv_iinc (v := nI (i + 1)) (lv' := [(1, .int (nI (i + 1))), (0, .ref h0)]) hx hb dX4_init_72 hl (k := 0) rfl (nI_1 _) (by decide) rfl (fun ls hl => ?_)
        refine lv_goto (tgt := 54) hx hb dX4_init_75 (by decide) ?_
        refine W.widen (k := 83 + 11 * (i + 1)) (n := 2279 + 312 * (i + 1)) (by omega) (by omega) ?_
        exact ih (i + 1) (va_up b2 (i + 7) q) H locs hP hD hS lt (by omega) ls hl
  have eW : [(h0, .inr (3, [.ref (qn 0), .ref q16, .ref q27, .ref q39, .ref q47])), (q27, .inr (1, [.ref qc, .int 0])), (qc, .inl (g.2 0, 80, .inl (fun _ => 0))), (q16, .inr (0, [.ref qs, .int 0, .int 0])), (qs, .inl (g.2 4, 6, .inr (.inr (.inr (.inr (fun j => some (b (j + 1) 0))))))), (q39, .inl (g.2 4, 2, .inr (.inr (.inr (.inr (fun _ => none)))))), (q47, .inl (g.2 2, 2, .inl (fun _ => 0)))] ++ (q_stW g qn q_S0 ++ q_poolW g b (fun _ => q_S0) 1 6) = [(h0, .inr (3, [.ref (qn 0), .ref q16, .ref q27, .ref q39, .ref q47])), (q27, .inr (1, [.ref qc, .int 0])), (qc, .inl (g.2 0, 80, .inl (fun _ => 0))), (q16, .inr (0, [.ref qs, .int 0, .int 0])), (qs, .inl (g.2 4, 6, .inr (.inr (.inr (.inr (fun j => some (b (j + 1) 0))))))), (q39, .inl (g.2 4, 2, .inr (.inr (.inr (.inr (rfF (fun _ _ => 0) 7 0)))))), (q47, .inl (g.2 2, 2, .inl (fun _ => 0)))] ++ ((q_stW g qn q_S0 ++ q_poolW g b (fun _ => q_S0) 1 6) ++ q_poolW g (fun _ _ => 0) (fun _ => q_S0) 7 0) := by
    rw [rf_0]; show _ = _ ++ ((q_stW g qn q_S0 ++ q_poolW g b (fun _ => q_S0) 1 6) ++ []); rw [List.append_nil]
  have hP : va_P g.1 vwCl ([(h0, .inr (3, [.ref (qn 0), .ref q16, .ref q27, .ref q39, .ref q47])), (q27, .inr (1, [.ref qc, .int 0])), (qc, .inl (g.2 0, 80, .inl (fun _ => 0))), (q16, .inr (0, [.ref qs, .int 0, .int 0])), (qs, .inl (g.2 4, 6, .inr (.inr (.inr (.inr (fun j => some (b (j + 1) 0))))))), (q39, .inl (g.2 4, 2, .inr (.inr (.inr (.inr (rfF (fun _ _ => 0) 7 0)))))), (q47, .inl (g.2 2, 2, .inl (fun _ => 0)))] ++ ((q_stW g qn q_S0 ++ q_poolW g b (fun _ => q_S0) 1 6) ++ q_poolW g (fun _ _ => 0) (fun _ => q_S0) 7 0)) H := by rw [← eW]; exact hP
  have hD : va_D A ([(h0, .inr (3, [.ref (qn 0), .ref q16, .ref q27, .ref q39, .ref q47])), (q27, .inr (1, [.ref qc, .int 0])), (qc, .inl (g.2 0, 80, .inl (fun _ => 0))), (q16, .inr (0, [.ref qs, .int 0, .int 0])), (qs, .inl (g.2 4, 6, .inr (.inr (.inr (.inr (fun j => some (b (j + 1) 0))))))), (q39, .inl (g.2 4, 2, .inr (.inr (.inr (.inr (rfF (fun _ _ => 0) 7 0)))))), (q47, .inl (g.2 2, 2, .inl (fun _ => 0)))] ++ ((q_stW g qn q_S0 ++ q_poolW g b (fun _ => q_S0) 1 6) ++ q_poolW g (fun _ _ => 0) (fun _ => q_S0) 7 0)) := by rw [← eW]; exact hD
  exact L 3 0 (fun _ _ => 0) H locs hP hD hS (by omega) (by omega) ls hl
