/-! what a constructor leaves -/
theorem q_Dset {A : Nat → Prop} {ws : va_W} {k q : Nat} {e0 e1 : va_E} (hD : va_D A ws) (hk : ws[k]? = some (q, e0)) : va_D A (ws.set k (q, e1)) := by
  have hl := (List.getElem?_eq_some_iff.mp hk).1
  have adr : ∀ (i : Nat) (p : Nat × va_E), (ws.set k (q, e1))[i]? = some p → ∃ e, ws[i]? = some (p.1, e) := by
    intro i p hp
    by_cases c : i = k
    · subst c
      rw [List.getElem?_set_self hl] at hp
      cases hp
      exact ⟨e0, hk⟩
    · rw [List.getElem?_set_ne (fun z => c z.symm)] at hp
      exact ⟨p.2, hp⟩
  refine ⟨fun i j p x hp hx e => ?_, fun i p hp => ?_⟩
  · obtain ⟨u, hu⟩ := adr i p hp
    obtain ⟨v, hv⟩ := adr j x hx
    exact hD.1 i j _ _ hu hv e
  · obtain ⟨u, hu⟩ := adr i p hp
    exact hD.2 i (p.1, u) hu
def q_S0 : q_St := (upd (upd (upd (upd (fun _ => 0) 0 10) 1 10) 2 0) 3 2, fun _ => 0, flF (fun _ => 0) (-6) 10, fun _ => 0, flF (fun _ => 0) (-6) 10, flL (fun _ => 0) (-1) 8, flL (fun _ => 0) (-1) 80, fun _ => 0, flF (fun _ => 0) (-6) 80, fun _ => 0, 0, -6)
set_option maxHeartbeats 4000000 in
set_option maxRecDepth 100000 in
theorem c_X3_init (l : Launch) (g : q_G) (h0 sz : Nat) : Met l yX3_init wsX3_init { frames := 1, cells := 10, slots := 300, locals := 40 } (va_Pc [.ref h0] (q_NB g [(h0, .inr (2, [.null, .null, .null, .null, .null, .null, .null, .null, .null, .null, .int 0, .int 0]))] sz)) (q_NQ g (va_A [(h0, .inr (2, [.null, .null, .null, .null, .null, .null, .null, .null, .null, .null, .int 0, .int 0]))] sz) (X := Nat → Nat) (fun q => q 0 = h0) (fun q => q_stW g q q_S0)) 10 300 (va_A [(h0, .inr (2, [.null, .null, .null, .null, .null, .null, .null, .null, .null, .null, .int 0, .int 0]))] sz) := by
  refine Met.ofW (cc := cX3_init) (maxL := 1) (ret := none) (by decide) rfl ?_
  intro p e s m args below meth c s₁ B hml hv
  obtain ⟨rfl, hsz, hP, hK, hD0⟩ := hv
  have hx := B.exec
  have hb := B.bytes
  have hr := B.returns
  have hts := atoms_spec (ws := wsX3_init) B.pre
  have hown : s.vm.findClass RX3 = some m.cls := findClass_of_methodNamed B.named
  have hlk := B.notSynchronized
  have hin : meth.name = "<init>" := (name_of_methodNamed B.named B.method).1
  subst hsz
  have hD := hD0.self (sz := s.heap.size)
  generalize hAe : va_A [(h0, .inr (2, [.null, .null, .null, .null, .null, .null, .null, .null, .null, .null, .int 0, .int 0]))] s.heap.size = A at hD ⊢
  have hA : ∀ q : Nat, s.heap.size ≤ q → A q := fun q h => by rw [← hAe]; exact Or.inr h
  have hS : va_S A s.heap s.heap [] := va_S.rf
  have hl := lv_entry ([.ref h0]) (n := 1) (Nat.le_of_ble_eq_true rfl)
  rw [lg_entry_eq]
  generalize (lg_sl ([.ref h0]) ++ List.replicate (1 - (lg_sl ([.ref h0])).length) Slot.unset).toArray = ls at hl ⊢
  have hl : lv_has ls 1 [(0, .ref h0)] := hl
  have hP : va_P g.1 vwCl ([(h0, .inr (2, [.null, .null, .null, .null, .null, .null, .null, .null, .null, .null, .int 0, .int 0]))]) s.heap := hP
  have hD : va_D A ([(h0, .inr (2, [.null, .null, .null, .null, .null, .null, .null, .null, .null, .null, .int 0, .int 0]))]) := hD
  have hi_X3 : ∀ w ∈ u_ws RX3 TX3 12, w ∈ wsX3_init := by decide +kernel
  refine lv_aload_n hx hb dX3_init_0 rfl (lv_at hl 0 rfl) ?_
  refine W.objInit hx hb hown (hts (.methodLink RX3 3 objectInit) (by decide +kernel)) (hts (.instanceMethod objectInit) (by decide +kernel)) (hts (.code objectInit ⟨#[0xb1]⟩ 1 none) (List.mem_of_getElem? (i := 3) rfl)) rfl (by rw [hml]; exact hl.1) rfl dX3_init_1 (Nat.le_of_ble_eq_true rfl) (Nat.le_of_ble_eq_true rfl) ?_
  refine W.eq (g2 := F0 m 4 ls []) rfl ?_
  refine lv_aload_n hx hb dX3_init_4 rfl (lv_at hl 0 rfl) ?_
  refine lv_iconst (v := 4) hx hb dX3_init_5 (by decide) ?_
  refine va_newa (atype := .int) (ty := .int) (N' := 4) (a0 := (4, .inl (fun _ => 0))) hx hb (hts (.arrayClass .int) (by decide +kernel)) rfl hK hP hD hS hA (fun _ => rfl) (by decide) (by decide) (Nat.le_of_ble_eq_true rfl) (Nat.le_of_ble_eq_true rfl) (Nat.le_of_ble_eq_true rfl) dX3_init_6 (fun q6 cA H hK9 hP hD hS => ?_)
  have hcA := q_cA0 hK9
  subst hcA
  have hP : va_P g.1 vwCl ([(h0, .inr (2, [.null, .null, .null, .null, .null, .null, .null, .null, .null, .null, .int 0, .int 0])), (q6, .inl (g.2 0, 4, .inl (fun _ => 0)))]) H := hP
  have hD : va_D A ([(h0, .inr (2, [.null, .null, .null, .null, .null, .null, .null, .null, .null, .null, .int 0, .int 0])), (q6, .inl (g.2 0, 4, .inl (fun _ => 0)))]) := hD
  refine W.widen (k := 1) (n := 4) (Nat.le_of_ble_eq_true rfl) (Nat.le_of_ble_eq_true rfl) ?_
  refine lv_dup hx hb dX3_init_8 rfl ?_
  refine lv_iconst (v := 0) hx hb dX3_init_9 (by decide) ?_
  refine lv_bipush (v := 10) hx hb dX3_init_10 (by decide) ?_
  refine q_iast (j := 0) hx hb hK hP hD hS 1 0 rfl rfl (by decide) (by decide) dX3_init_12 (fun H locs hP hS => ?_)
  have hP : va_P g.1 vwCl ([(h0, .inr (2, [.null, .null, .null, .null, .null, .null, .null, .null, .null, .null, .int 0, .int 0])), (q6, .inl (g.2 0, 4, .inl (upd (fun _ => 0) 0 10)))]) H := hP
  have hD : va_D A ([(h0, .inr (2, [.null, .null, .null, .null, .null, .null, .null, .null, .null, .null, .int 0, .int 0])), (q6, .inl (g.2 0, 4, .inl (upd (fun _ => 0) 0 10)))]) := q_Dset (k := 1) hD rfl
  refine lv_dup hx hb dX3_init_13 rfl ?_
  refine lv_iconst (v := 1) hx hb dX3_init_14 (by decide) ?_
  refine lv_bipush (v := 10) hx hb dX3_init_15 (by decide) ?_
  refine q_iast (j := 1) hx hb hK hP hD hS 1 0 rfl rfl (by decide) (by decide) dX3_init_17 (fun H locs hP hS => ?_)
  have hP : va_P g.1 vwCl ([(h0, .inr (2, [.null, .null, .null, .null, .null, .null, .null, .null, .null, .null, .int 0, .int 0])), (q6, .inl (g.2 0, 4, .inl (upd (upd (fun _ => 0) 0 10) 1 10)))]) H := hP
  have hD : va_D A ([(h0, .inr (2, [.null, .null, .null, .null, .null, .null, .null, .null, .null, .null, .int 0, .int 0])), (q6, .inl (g.2 0, 4, .inl (upd (upd (fun _ => 0) 0 10) 1 10)))]) := q_Dset (k := 1) hD rfl
  refine lv_dup hx hb dX3_init_18 rfl ?_
  refine lv_iconst (v := 2) hx hb dX3_init_19 (by decide) ?_
  refine lv_iconst (v := 0) hx hb dX3_init_20 (by decide) ?_
  refine q_iast (j := 2) hx hb hK hP hD hS 1 0 rfl rfl (by decide) (by decide) dX3_init_21 (fun H locs hP hS => ?_)
  have hP : va_P g.1 vwCl ([(h0, .inr (2, [.null, .null, .null, .null, .null, .null, .null, .null, .null, .null, .int 0, .int 0])), (q6, .inl (g.2 0, 4, .inl (upd (upd (upd (fun _ => 0) 0 10) 1 10) 2 0)))]) H := hP
  have hD : va_D A ([(h0, .inr (2, [.null, .null, .null, .null, .null, .null, .null, .null, .null, .null, .int 0, .int 0])), (q6, .inl (g.2 0, 4, .inl (upd (upd (upd (fun _ => 0) 0 10) 1 10) 2 0)))]) := q_Dset (k := 1) hD rfl
  refine lv_dup hx hb dX3_init_22 rfl ?_
  refine lv_iconst (v := 3) hx hb dX3_init_23 (by decide) ?_
  refine lv_iconst (v := 2) hx hb dX3_init_24 (by decide) ?_
  refine q_iast (j := 3) hx hb hK hP hD hS 1 0 rfl rfl (by decide) (by decide) dX3_init_25 (fun H locs hP hS => ?_)
  have hP : va_P g.1 vwCl ([(h0, .inr (2, [.null, .null, .null, .null, .null, .null, .null, .null, .null, .null, .int 0, .int 0])), (q6, .inl (g.2 0, 4, .inl (upd (upd (upd (upd (fun _ => 0) 0 10) 1 10) 2 0) 3 2)))]) H := hP
  have hD : va_D A ([(h0, .inr (2, [.null, .null, .null, .null, .null, .null, .null, .null, .null, .null, .int 0, .int 0])), (q6, .inl (g.2 0, 4, .inl (upd (upd (upd (upd (fun _ => 0) 0 10) 1 10) 2 0) 3 2)))]) := q_Dset (k := 1) hD rfl
  refine va_putF (D := g.1) (ci := 2) (v := .ref q6) (ty := .array .int) (C := RX3) (T := TX3) (N := 12) hx hb hts hi_X3 tyX3 tyX3_ok nmX3 hown hK hP hD hS 0 rfl rfl 0 (by decide) (hts (.fieldLink RX3 9 "PubQuizzes$State" "settings" "[I") (by decide +kernel)) (fun _ h9 => h9) rfl hin rfl (by decide +kernel) rfl rfl (Nat.le_of_ble_eq_true rfl) dX3_init_26 (fun H locs hP hD hS => ?_)
  have hP : va_P g.1 vwCl ([(h0, .inr (2, [.ref q6, .null, .null, .null, .null, .null, .null, .null, .null, .null, .int 0, .int 0])), (q6, .inl (g.2 0, 4, .inl (upd (upd (upd (upd (fun _ => 0) 0 10) 1 10) 2 0) 3 2)))]) H := hP
  have hD : va_D A ([(h0, .inr (2, [.ref q6, .null, .null, .null, .null, .null, .null, .null, .null, .null, .int 0, .int 0])), (q6, .inl (g.2 0, 4, .inl (upd (upd (upd (upd (fun _ => 0) 0 10) 1 10) 2 0) 3 2)))]) := hD
  refine lv_aload_n hx hb dX3_init_29 rfl (lv_at hl 0 rfl) ?_
  refine lv_bipush (v := 10) hx hb dX3_init_30 (by decide) ?_
  refine va_newa (atype := .int) (ty := .int) (N' := 10) (a0 := (10, .inl (fun _ => 0))) hx hb (hts (.arrayClass .int) (by decide +kernel)) rfl hK hP hD hS hA (fun _ => rfl) (by decide) (by decide) (Nat.le_of_ble_eq_true rfl) (Nat.le_of_ble_eq_true rfl) (Nat.le_of_ble_eq_true rfl) dX3_init_32 (fun q32 cA H hK9 hP hD hS => ?_)
  have hcA := q_cA0 hK9
  subst hcA
  have hP : va_P g.1 vwCl ([(h0, .inr (2, [.ref q6, .null, .null, .null, .null, .null, .null, .null, .null, .null, .int 0, .int 0])), (q6, .inl (g.2 0, 4, .inl (upd (upd (upd (upd (fun _ => 0) 0 10) 1 10) 2 0) 3 2))), (q32, .inl (g.2 0, 10, .inl (fun _ => 0)))]) H := hP
  have hD : va_D A ([(h0, .inr (2, [.ref q6, .null, .null, .null, .null, .null, .null, .null, .null, .null, .int 0, .int 0])), (q6, .inl (g.2 0, 4, .inl (upd (upd (upd (upd (fun _ => 0) 0 10) 1 10) 2 0) 3 2))), (q32, .inl (g.2 0, 10, .inl (fun _ => 0)))]) := hD
  refine W.widen (k := 2) (n := 14) (Nat.le_of_ble_eq_true rfl) (Nat.le_of_ble_eq_true rfl) ?_
  refine va_putF (D := g.1) (ci := 2) (v := .ref q32) (ty := .array .int) (C := RX3) (T := TX3) (N := 12) hx hb hts hi_X3 tyX3 tyX3_ok nmX3 hown hK hP hD hS 0 rfl rfl 1 (by decide) (hts (.fieldLink RX3 15 "PubQuizzes$State" "paid" "[I") (by decide +kernel)) (fun _ h9 => h9) rfl hin rfl (by decide +kernel) rfl rfl (Nat.le_of_ble_eq_true rfl) dX3_init_34 (fun H locs hP hD hS => ?_)
  have hP : va_P g.1 vwCl ([(h0, .inr (2, [.ref q6, .ref q32, .null, .null, .null, .null, .null, .null, .null, .null, .int 0, .int 0])), (q6, .inl (g.2 0, 4, .inl (upd (upd (upd (upd (fun _ => 0) 0 10) 1 10) 2 0) 3 2))), (q32, .inl (g.2 0, 10, .inl (fun _ => 0)))]) H := hP
  have hD : va_D A ([(h0, .inr (2, [.ref q6, .ref q32, .null, .null, .null, .null, .null, .null, .null, .null, .int 0, .int 0])), (q6, .inl (g.2 0, 4, .inl (upd (upd (upd (upd (fun _ => 0) 0 10) 1 10) 2 0) 3 2))), (q32, .inl (g.2 0, 10, .inl (fun _ => 0)))]) := hD
  refine lv_aload_n hx hb dX3_init_37 rfl (lv_at hl 0 rfl) ?_
  refine lv_bipush (v := 10) hx hb dX3_init_38 (by decide) ?_
  refine va_newa (atype := .int) (ty := .int) (N' := 10) (a0 := (10, .inl (fun _ => 0))) hx hb (hts (.arrayClass .int) (by decide +kernel)) rfl hK hP hD hS hA (fun _ => rfl) (by decide) (by decide) (Nat.le_of_ble_eq_true rfl) (Nat.le_of_ble_eq_true rfl) (Nat.le_of_ble_eq_true rfl) dX3_init_40 (fun q40 cA H hK9 hP hD hS => ?_)
  have hcA := q_cA0 hK9
  subst hcA
  have hP : va_P g.1 vwCl ([(h0, .inr (2, [.ref q6, .ref q32, .null, .null, .null, .null, .null, .null, .null, .null, .int 0, .int 0])), (q6, .inl (g.2 0, 4, .inl (upd (upd (upd (upd (fun _ => 0) 0 10) 1 10) 2 0) 3 2))), (q32, .inl (g.2 0, 10, .inl (fun _ => 0))), (q40, .inl (g.2 0, 10, .inl (fun _ => 0)))]) H := hP
  have hD : va_D A ([(h0, .inr (2, [.ref q6, .ref q32, .null, .null, .null, .null, .null, .null, .null, .null, .int 0, .int 0])), (q6, .inl (g.2 0, 4, .inl (upd (upd (upd (upd (fun _ => 0) 0 10) 1 10) 2 0) 3 2))), (q32, .inl (g.2 0, 10, .inl (fun _ => 0))), (q40, .inl (g.2 0, 10, .inl (fun _ => 0)))]) := hD
  refine W.widen (k := 3) (n := 24) (Nat.le_of_ble_eq_true rfl) (Nat.le_of_ble_eq_true rfl) ?_
  refine va_putF (D := g.1) (ci := 2) (v := .ref q40) (ty := .array .int) (C := RX3) (T := TX3) (N := 12) hx hb hts hi_X3 tyX3 tyX3_ok nmX3 hown hK hP hD hS 0 rfl rfl 2 (by decide) (hts (.fieldLink RX3 18 "PubQuizzes$State" "jokers" "[I") (by decide +kernel)) (fun _ h9 => h9) rfl hin rfl (by decide +kernel) rfl rfl (Nat.le_of_ble_eq_true rfl) dX3_init_42 (fun H locs hP hD hS => ?_)
  have hP : va_P g.1 vwCl ([(h0, .inr (2, [.ref q6, .ref q32, .ref q40, .null, .null, .null, .null, .null, .null, .null, .int 0, .int 0])), (q6, .inl (g.2 0, 4, .inl (upd (upd (upd (upd (fun _ => 0) 0 10) 1 10) 2 0) 3 2))), (q32, .inl (g.2 0, 10, .inl (fun _ => 0))), (q40, .inl (g.2 0, 10, .inl (fun _ => 0)))]) H := hP
  have hD : va_D A ([(h0, .inr (2, [.ref q6, .ref q32, .ref q40, .null, .null, .null, .null, .null, .null, .null, .int 0, .int 0])), (q6, .inl (g.2 0, 4, .inl (upd (upd (upd (upd (fun _ => 0) 0 10) 1 10) 2 0) 3 2))), (q32, .inl (g.2 0, 10, .inl (fun _ => 0))), (q40, .inl (g.2 0, 10, .inl (fun _ => 0)))]) := hD
  refine lv_aload_n hx hb dX3_init_45 rfl (lv_at hl 0 rfl) ?_
  refine lv_bipush (v := 10) hx hb dX3_init_46 (by decide) ?_
  refine va_newa (atype := .int) (ty := .int) (N' := 10) (a0 := (10, .inl (fun _ => 0))) hx hb (hts (.arrayClass .int) (by decide +kernel)) rfl hK hP hD hS hA (fun _ => rfl) (by decide) (by decide) (Nat.le_of_ble_eq_true rfl) (Nat.le_of_ble_eq_true rfl) (Nat.le_of_ble_eq_true rfl) dX3_init_48 (fun q48 cA H hK9 hP hD hS => ?_)
  have hcA := q_cA0 hK9
  subst hcA
  have hP : va_P g.1 vwCl ([(h0, .inr (2, [.ref q6, .ref q32, .ref q40, .null, .null, .null, .null, .null, .null, .null, .int 0, .int 0])), (q6, .inl (g.2 0, 4, .inl (upd (upd (upd (upd (fun _ => 0) 0 10) 1 10) 2 0) 3 2))), (q32, .inl (g.2 0, 10, .inl (fun _ => 0))), (q40, .inl (g.2 0, 10, .inl (fun _ => 0))), (q48, .inl (g.2 0, 10, .inl (fun _ => 0)))]) H := hP
  have hD : va_D A ([(h0, .inr (2, [.ref q6, .ref q32, .ref q40, .null, .null, .null, .null, .null, .null, .null, .int 0, .int 0])), (q6, .inl (g.2 0, 4, .inl (upd (upd (upd (upd (fun _ => 0) 0 10) 1 10) 2 0) 3 2))), (q32, .inl (g.2 0, 10, .inl (fun _ => 0))), (q40, .inl (g.2 0, 10, .inl (fun _ => 0))), (q48, .inl (g.2 0, 10, .inl (fun _ => 0)))]) := hD
  refine W.widen (k := 4) (n := 34) (Nat.le_of_ble_eq_true rfl) (Nat.le_of_ble_eq_true rfl) ?_
  refine va_putF (D := g.1) (ci := 2) (v := .ref q48) (ty := .array .int) (C := RX3) (T := TX3) (N := 12) hx hb hts hi_X3 tyX3 tyX3_ok nmX3 hown hK hP hD hS 0 rfl rfl 3 (by decide) (hts (.fieldLink RX3 21 "PubQuizzes$State" "fines" "[I") (by decide +kernel)) (fun _ h9 => h9) rfl hin rfl (by decide +kernel) rfl rfl (Nat.le_of_ble_eq_true rfl) dX3_init_50 (fun H locs hP hD hS => ?_)
  have hP : va_P g.1 vwCl ([(h0, .inr (2, [.ref q6, .ref q32, .ref q40, .ref q48, .null, .null, .null, .null, .null, .null, .int 0, .int 0])), (q6, .inl (g.2 0, 4, .inl (upd (upd (upd (upd (fun _ => 0) 0 10) 1 10) 2 0) 3 2))), (q32, .inl (g.2 0, 10, .inl (fun _ => 0))), (q40, .inl (g.2 0, 10, .inl (fun _ => 0))), (q48, .inl (g.2 0, 10, .inl (fun _ => 0)))]) H := hP
  have hD : va_D A ([(h0, .inr (2, [.ref q6, .ref q32, .ref q40, .ref q48, .null, .null, .null, .null, .null, .null, .int 0, .int 0])), (q6, .inl (g.2 0, 4, .inl (upd (upd (upd (upd (fun _ => 0) 0 10) 1 10) 2 0) 3 2))), (q32, .inl (g.2 0, 10, .inl (fun _ => 0))), (q40, .inl (g.2 0, 10, .inl (fun _ => 0))), (q48, .inl (g.2 0, 10, .inl (fun _ => 0)))]) := hD
  refine lv_aload_n hx hb dX3_init_53 rfl (lv_at hl 0 rfl) ?_
  refine lv_bipush (v := 10) hx hb dX3_init_54 (by decide) ?_
  refine va_newa (atype := .int) (ty := .int) (N' := 10) (a0 := (10, .inl (fun _ => 0))) hx hb (hts (.arrayClass .int) (by decide +kernel)) rfl hK hP hD hS hA (fun _ => rfl) (by decide) (by decide) (Nat.le_of_ble_eq_true rfl) (Nat.le_of_ble_eq_true rfl) (Nat.le_of_ble_eq_true rfl) dX3_init_56 (fun q56 cA H hK9 hP hD hS => ?_)
  have hcA := q_cA0 hK9
  subst hcA
  have hP : va_P g.1 vwCl ([(h0, .inr (2, [.ref q6, .ref q32, .ref q40, .ref q48, .null, .null, .null, .null, .null, .null, .int 0, .int 0])), (q6, .inl (g.2 0, 4, .inl (upd (upd (upd (upd (fun _ => 0) 0 10) 1 10) 2 0) 3 2))), (q32, .inl (g.2 0, 10, .inl (fun _ => 0))), (q40, .inl (g.2 0, 10, .inl (fun _ => 0))), (q48, .inl (g.2 0, 10, .inl (fun _ => 0))), (q56, .inl (g.2 0, 10, .inl (fun _ => 0)))]) H := hP
  have hD : va_D A ([(h0, .inr (2, [.ref q6, .ref q32, .ref q40, .ref q48, .null, .null, .null, .null, .null, .null, .int 0, .int 0])), (q6, .inl (g.2 0, 4, .inl (upd (upd (upd (upd (fun _ => 0) 0 10) 1 10) 2 0) 3 2))), (q32, .inl (g.2 0, 10, .inl (fun _ => 0))), (q40, .inl (g.2 0, 10, .inl (fun _ => 0))), (q48, .inl (g.2 0, 10, .inl (fun _ => 0))), (q56, .inl (g.2 0, 10, .inl (fun _ => 0)))]) := hD
  refine W.widen (k := 5) (n := 44) (Nat.le_of_ble_eq_true rfl) (Nat.le_of_ble_eq_true rfl) ?_
  refine va_putF (D := g.1) (ci := 2) (v := .ref q56) (ty := .array .int) (C := RX3) (T := TX3) (N := 12) hx hb hts hi_X3 tyX3 tyX3_ok nmX3 hown hK hP hD hS 0 rfl rfl 4 (by decide) (hts (.fieldLink RX3 24 "PubQuizzes$State" "guesses" "[I") (by decide +kernel)) (fun _ h9 => h9) rfl hin rfl (by decide +kernel) rfl rfl (Nat.le_of_ble_eq_true rfl) dX3_init_58 (fun H locs hP hD hS => ?_)
  have hP : va_P g.1 vwCl ([(h0, .inr (2, [.ref q6, .ref q32, .ref q40, .ref q48, .ref q56, .null, .null, .null, .null, .null, .int 0, .int 0])), (q6, .inl (g.2 0, 4, .inl (upd (upd (upd (upd (fun _ => 0) 0 10) 1 10) 2 0) 3 2))), (q32, .inl (g.2 0, 10, .inl (fun _ => 0))), (q40, .inl (g.2 0, 10, .inl (fun _ => 0))), (q48, .inl (g.2 0, 10, .inl (fun _ => 0))), (q56, .inl (g.2 0, 10, .inl (fun _ => 0)))]) H := hP
  have hD : va_D A ([(h0, .inr (2, [.ref q6, .ref q32, .ref q40, .ref q48, .ref q56, .null, .null, .null, .null, .null, .int 0, .int 0])), (q6, .inl (g.2 0, 4, .inl (upd (upd (upd (upd (fun _ => 0) 0 10) 1 10) 2 0) 3 2))), (q32, .inl (g.2 0, 10, .inl (fun _ => 0))), (q40, .inl (g.2 0, 10, .inl (fun _ => 0))), (q48, .inl (g.2 0, 10, .inl (fun _ => 0))), (q56, .inl (g.2 0, 10, .inl (fun _ => 0)))]) := hD
  refine lv_aload_n hx hb dX3_init_61 rfl (lv_at hl 0 rfl) ?_
  refine lv_bipush (v := 8) hx hb dX3_init_62 (by decide) ?_
  refine va_newa (atype := .long) (ty := .long) (N' := 8) (a0 := (8, .inr (.inl (fun _ => 0)))) hx hb (hts (.arrayClass .long) (by decide +kernel)) rfl hK hP hD hS hA (fun _ => rfl) (by decide) (by decide) (Nat.le_of_ble_eq_true rfl) (Nat.le_of_ble_eq_true rfl) (Nat.le_of_ble_eq_true rfl) dX3_init_64 (fun q64 cA H hK9 hP hD hS => ?_)
  have hcA := q_cA1 hK9
  subst hcA
  have hP : va_P g.1 vwCl ([(h0, .inr (2, [.ref q6, .ref q32, .ref q40, .ref q48, .ref q56, .null, .null, .null, .null, .null, .int 0, .int 0])), (q6, .inl (g.2 0, 4, .inl (upd (upd (upd (upd (fun _ => 0) 0 10) 1 10) 2 0) 3 2))), (q32, .inl (g.2 0, 10, .inl (fun _ => 0))), (q40, .inl (g.2 0, 10, .inl (fun _ => 0))), (q48, .inl (g.2 0, 10, .inl (fun _ => 0))), (q56, .inl (g.2 0, 10, .inl (fun _ => 0))), (q64, .inl (g.2 1, 8, .inr (.inl (fun _ => 0))))]) H := hP
  have hD : va_D A ([(h0, .inr (2, [.ref q6, .ref q32, .ref q40, .ref q48, .ref q56, .null, .null, .null, .null, .null, .int 0, .int 0])), (q6, .inl (g.2 0, 4, .inl (upd (upd (upd (upd (fun _ => 0) 0 10) 1 10) 2 0) 3 2))), (q32, .inl (g.2 0, 10, .inl (fun _ => 0))), (q40, .inl (g.2 0, 10, .inl (fun _ => 0))), (q48, .inl (g.2 0, 10, .inl (fun _ => 0))), (q56, .inl (g.2 0, 10, .inl (fun _ => 0))), (q64, .inl (g.2 1, 8, .inr (.inl (fun _ => 0))))]) := hD
  refine W.widen (k := 6) (n := 52) (Nat.le_of_ble_eq_true rfl) (Nat.le_of_ble_eq_true rfl) ?_
  refine va_putF (D := g.1) (ci := 2) (v := .ref q64) (ty := .array .long) (C := RX3) (T := TX3) (N := 12) hx hb hts hi_X3 tyX3 tyX3_ok nmX3 hown hK hP hD hS 0 rfl rfl 5 (by decide) (hts (.fieldLink RX3 27 "PubQuizzes$State" "keys" "[J") (by decide +kernel)) (fun _ h9 => h9) rfl hin rfl (by decide +kernel) rfl rfl (Nat.le_of_ble_eq_true rfl) dX3_init_66 (fun H locs hP hD hS => ?_)
  have hP : va_P g.1 vwCl ([(h0, .inr (2, [.ref q6, .ref q32, .ref q40, .ref q48, .ref q56, .ref q64, .null, .null, .null, .null, .int 0, .int 0])), (q6, .inl (g.2 0, 4, .inl (upd (upd (upd (upd (fun _ => 0) 0 10) 1 10) 2 0) 3 2))), (q32, .inl (g.2 0, 10, .inl (fun _ => 0))), (q40, .inl (g.2 0, 10, .inl (fun _ => 0))), (q48, .inl (g.2 0, 10, .inl (fun _ => 0))), (q56, .inl (g.2 0, 10, .inl (fun _ => 0))), (q64, .inl (g.2 1, 8, .inr (.inl (fun _ => 0))))]) H := hP
  have hD : va_D A ([(h0, .inr (2, [.ref q6, .ref q32, .ref q40, .ref q48, .ref q56, .ref q64, .null, .null, .null, .null, .int 0, .int 0])), (q6, .inl (g.2 0, 4, .inl (upd (upd (upd (upd (fun _ => 0) 0 10) 1 10) 2 0) 3 2))), (q32, .inl (g.2 0, 10, .inl (fun _ => 0))), (q40, .inl (g.2 0, 10, .inl (fun _ => 0))), (q48, .inl (g.2 0, 10, .inl (fun _ => 0))), (q56, .inl (g.2 0, 10, .inl (fun _ => 0))), (q64, .inl (g.2 1, 8, .inr (.inl (fun _ => 0))))]) := hD
  refine lv_aload_n hx hb dX3_init_69 rfl (lv_at hl 0 rfl) ?_
  refine lv_bipush (v := 80) hx hb dX3_init_70 (by decide) ?_
  refine va_newa (atype := .long) (ty := .long) (N' := 80) (a0 := (80, .inr (.inl (fun _ => 0)))) hx hb (hts (.arrayClass .long) (by decide +kernel)) rfl hK hP hD hS hA (fun _ => rfl) (by decide) (by decide) (Nat.le_of_ble_eq_true rfl) (Nat.le_of_ble_eq_true rfl) (Nat.le_of_ble_eq_true rfl) dX3_init_72 (fun q72 cA H hK9 hP hD hS => ?_)
  have hcA := q_cA1 hK9
  subst hcA
  have hP : va_P g.1 vwCl ([(h0, .inr (2, [.ref q6, .ref q32, .ref q40, .ref q48, .ref q56, .ref q64, .null, .null, .null, .null, .int 0, .int 0])), (q6, .inl (g.2 0, 4, .inl (upd (upd (upd (upd (fun _ => 0) 0 10) 1 10) 2 0) 3 2))), (q32, .inl (g.2 0, 10, .inl (fun _ => 0))), (q40, .inl (g.2 0, 10, .inl (fun _ => 0))), (q48, .inl (g.2 0, 10, .inl (fun _ => 0))), (q56, .inl (g.2 0, 10, .inl (fun _ => 0))), (q64, .inl (g.2 1, 8, .inr (.inl (fun _ => 0)))), (q72, .inl (g.2 1, 80, .inr (.inl (fun _ => 0))))]) H := hP
  have hD : va_D A ([(h0, .inr (2, [.ref q6, .ref q32, .ref q40, .ref q48, .ref q56, .ref q64, .null, .null, .null, .null, .int 0, .int 0])), (q6, .inl (g.2 0, 4, .inl (upd (upd (upd (upd (fun _ => 0) 0 10) 1 10) 2 0) 3 2))), (q32, .inl (g.2 0, 10, .inl (fun _ => 0))), (q40, .inl (g.2 0, 10, .inl (fun _ => 0))), (q48, .inl (g.2 0, 10, .inl (fun _ => 0))), (q56, .inl (g.2 0, 10, .inl (fun _ => 0))), (q64, .inl (g.2 1, 8, .inr (.inl (fun _ => 0)))), (q72, .inl (g.2 1, 80, .inr (.inl (fun _ => 0))))]) := hD
  refine W.widen (k := 7) (n := 132) (Nat.le_of_ble_eq_true rfl) (Nat.le_of_ble_eq_true rfl) ?_
  refine va_putF (D := g.1) (ci := 2) (v := .ref q72) (ty := .array .long) (C := RX3) (T := TX3) (N := 12) hx hb hts hi_X3 tyX3 tyX3_ok nmX3 hown hK hP hD hS 0 rfl rfl 6 (by decide) (hts (.fieldLink RX3 31 "PubQuizzes$State" "sheets" "[J") (by decide +kernel)) (fun _ h9 => h9) rfl hin rfl (by decide +kernel) rfl rfl (Nat.le_of_ble_eq_true rfl) dX3_init_74 (fun H locs hP hD hS => ?_)
  have hP : va_P g.1 vwCl ([(h0, .inr (2, [.ref q6, .ref q32, .ref q40, .ref q48, .ref q56, .ref q64, .ref q72, .null, .null, .null, .int 0, .int 0])), (q6, .inl (g.2 0, 4, .inl (upd (upd (upd (upd (fun _ => 0) 0 10) 1 10) 2 0) 3 2))), (q32, .inl (g.2 0, 10, .inl (fun _ => 0))), (q40, .inl (g.2 0, 10, .inl (fun _ => 0))), (q48, .inl (g.2 0, 10, .inl (fun _ => 0))), (q56, .inl (g.2 0, 10, .inl (fun _ => 0))), (q64, .inl (g.2 1, 8, .inr (.inl (fun _ => 0)))), (q72, .inl (g.2 1, 80, .inr (.inl (fun _ => 0))))]) H := hP
  have hD : va_D A ([(h0, .inr (2, [.ref q6, .ref q32, .ref q40, .ref q48, .ref q56, .ref q64, .ref q72, .null, .null, .null, .int 0, .int 0])), (q6, .inl (g.2 0, 4, .inl (upd (upd (upd (upd (fun _ => 0) 0 10) 1 10) 2 0) 3 2))), (q32, .inl (g.2 0, 10, .inl (fun _ => 0))), (q40, .inl (g.2 0, 10, .inl (fun _ => 0))), (q48, .inl (g.2 0, 10, .inl (fun _ => 0))), (q56, .inl (g.2 0, 10, .inl (fun _ => 0))), (q64, .inl (g.2 1, 8, .inr (.inl (fun _ => 0)))), (q72, .inl (g.2 1, 80, .inr (.inl (fun _ => 0))))]) := hD
  refine lv_aload_n hx hb dX3_init_77 rfl (lv_at hl 0 rfl) ?_
  refine lv_bipush (v := 80) hx hb dX3_init_78 (by decide) ?_
  refine va_newa (atype := .int) (ty := .int) (N' := 80) (a0 := (80, .inl (fun _ => 0))) hx hb (hts (.arrayClass .int) (by decide +kernel)) rfl hK hP hD hS hA (fun _ => rfl) (by decide) (by decide) (Nat.le_of_ble_eq_true rfl) (Nat.le_of_ble_eq_true rfl) (Nat.le_of_ble_eq_true rfl) dX3_init_80 (fun q80 cA H hK9 hP hD hS => ?_)
  have hcA := q_cA0 hK9
  subst hcA
  have hP : va_P g.1 vwCl ([(h0, .inr (2, [.ref q6, .ref q32, .ref q40, .ref q48, .ref q56, .ref q64, .ref q72, .null, .null, .null, .int 0, .int 0])), (q6, .inl (g.2 0, 4, .inl (upd (upd (upd (upd (fun _ => 0) 0 10) 1 10) 2 0) 3 2))), (q32, .inl (g.2 0, 10, .inl (fun _ => 0))), (q40, .inl (g.2 0, 10, .inl (fun _ => 0))), (q48, .inl (g.2 0, 10, .inl (fun _ => 0))), (q56, .inl (g.2 0, 10, .inl (fun _ => 0))), (q64, .inl (g.2 1, 8, .inr (.inl (fun _ => 0)))), (q72, .inl (g.2 1, 80, .inr (.inl (fun _ => 0)))), (q80, .inl (g.2 0, 80, .inl (fun _ => 0)))]) H := hP
  have hD : va_D A ([(h0, .inr (2, [.ref q6, .ref q32, .ref q40, .ref q48, .ref q56, .ref q64, .ref q72, .null, .null, .null, .int 0, .int 0])), (q6, .inl (g.2 0, 4, .inl (upd (upd (upd (upd (fun _ => 0) 0 10) 1 10) 2 0) 3 2))), (q32, .inl (g.2 0, 10, .inl (fun _ => 0))), (q40, .inl (g.2 0, 10, .inl (fun _ => 0))), (q48, .inl (g.2 0, 10, .inl (fun _ => 0))), (q56, .inl (g.2 0, 10, .inl (fun _ => 0))), (q64, .inl (g.2 1, 8, .inr (.inl (fun _ => 0)))), (q72, .inl (g.2 1, 80, .inr (.inl (fun _ => 0)))), (q80, .inl (g.2 0, 80, .inl (fun _ => 0)))]) := hD
  refine W.widen (k := 8) (n := 212) (Nat.le_of_ble_eq_true rfl) (Nat.le_of_ble_eq_true rfl) ?_
  refine va_putF (D := g.1) (ci := 2) (v := .ref q80) (ty := .array .int) (C := RX3) (T := TX3) (N := 12) hx hb hts hi_X3 tyX3 tyX3_ok nmX3 hown hK hP hD hS 0 rfl rfl 7 (by decide) (hts (.fieldLink RX3 34 "PubQuizzes$State" "marks" "[I") (by decide +kernel)) (fun _ h9 => h9) rfl hin rfl (by decide +kernel) rfl rfl (Nat.le_of_ble_eq_true rfl) dX3_init_82 (fun H locs hP hD hS => ?_)
  have hP : va_P g.1 vwCl ([(h0, .inr (2, [.ref q6, .ref q32, .ref q40, .ref q48, .ref q56, .ref q64, .ref q72, .ref q80, .null, .null, .int 0, .int 0])), (q6, .inl (g.2 0, 4, .inl (upd (upd (upd (upd (fun _ => 0) 0 10) 1 10) 2 0) 3 2))), (q32, .inl (g.2 0, 10, .inl (fun _ => 0))), (q40, .inl (g.2 0, 10, .inl (fun _ => 0))), (q48, .inl (g.2 0, 10, .inl (fun _ => 0))), (q56, .inl (g.2 0, 10, .inl (fun _ => 0))), (q64, .inl (g.2 1, 8, .inr (.inl (fun _ => 0)))), (q72, .inl (g.2 1, 80, .inr (.inl (fun _ => 0)))), (q80, .inl (g.2 0, 80, .inl (fun _ => 0)))]) H := hP
  have hD : va_D A ([(h0, .inr (2, [.ref q6, .ref q32, .ref q40, .ref q48, .ref q56, .ref q64, .ref q72, .ref q80, .null, .null, .int 0, .int 0])), (q6, .inl (g.2 0, 4, .inl (upd (upd (upd (upd (fun _ => 0) 0 10) 1 10) 2 0) 3 2))), (q32, .inl (g.2 0, 10, .inl (fun _ => 0))), (q40, .inl (g.2 0, 10, .inl (fun _ => 0))), (q48, .inl (g.2 0, 10, .inl (fun _ => 0))), (q56, .inl (g.2 0, 10, .inl (fun _ => 0))), (q64, .inl (g.2 1, 8, .inr (.inl (fun _ => 0)))), (q72, .inl (g.2 1, 80, .inr (.inl (fun _ => 0)))), (q80, .inl (g.2 0, 80, .inl (fun _ => 0)))]) := hD
  refine lv_aload_n hx hb dX3_init_85 rfl (lv_at hl 0 rfl) ?_
  refine lv_bipush (v := 80) hx hb dX3_init_86 (by decide) ?_
  refine va_newa (atype := .int) (ty := .int) (N' := 80) (a0 := (80, .inl (fun _ => 0))) hx hb (hts (.arrayClass .int) (by decide +kernel)) rfl hK hP hD hS hA (fun _ => rfl) (by decide) (by decide) (Nat.le_of_ble_eq_true rfl) (Nat.le_of_ble_eq_true rfl) (Nat.le_of_ble_eq_true rfl) dX3_init_88 (fun q88 cA H hK9 hP hD hS => ?_)
  have hcA := q_cA0 hK9
  subst hcA
  have hP : va_P g.1 vwCl ([(h0, .inr (2, [.ref q6, .ref q32, .ref q40, .ref q48, .ref q56, .ref q64, .ref q72, .ref q80, .null, .null, .int 0, .int 0])), (q6, .inl (g.2 0, 4, .inl (upd (upd (upd (upd (fun _ => 0) 0 10) 1 10) 2 0) 3 2))), (q32, .inl (g.2 0, 10, .inl (fun _ => 0))), (q40, .inl (g.2 0, 10, .inl (fun _ => 0))), (q48, .inl (g.2 0, 10, .inl (fun _ => 0))), (q56, .inl (g.2 0, 10, .inl (fun _ => 0))), (q64, .inl (g.2 1, 8, .inr (.inl (fun _ => 0)))), (q72, .inl (g.2 1, 80, .inr (.inl (fun _ => 0)))), (q80, .inl (g.2 0, 80, .inl (fun _ => 0))), (q88, .inl (g.2 0, 80, .inl (fun _ => 0)))]) H := hP
  have hD : va_D A ([(h0, .inr (2, [.ref q6, .ref q32, .ref q40, .ref q48, .ref q56, .ref q64, .ref q72, .ref q80, .null, .null, .int 0, .int 0])), (q6, .inl (g.2 0, 4, .inl (upd (upd (upd (upd (fun _ => 0) 0 10) 1 10) 2 0) 3 2))), (q32, .inl (g.2 0, 10, .inl (fun _ => 0))), (q40, .inl (g.2 0, 10, .inl (fun _ => 0))), (q48, .inl (g.2 0, 10, .inl (fun _ => 0))), (q56, .inl (g.2 0, 10, .inl (fun _ => 0))), (q64, .inl (g.2 1, 8, .inr (.inl (fun _ => 0)))), (q72, .inl (g.2 1, 80, .inr (.inl (fun _ => 0)))), (q80, .inl (g.2 0, 80, .inl (fun _ => 0))), (q88, .inl (g.2 0, 80, .inl (fun _ => 0)))]) := hD
  refine W.widen (k := 9) (n := 292) (Nat.le_of_ble_eq_true rfl) (Nat.le_of_ble_eq_true rfl) ?_
  refine va_putF (D := g.1) (ci := 2) (v := .ref q88) (ty := .array .int) (C := RX3) (T := TX3) (N := 12) hx hb hts hi_X3 tyX3 tyX3_ok nmX3 hown hK hP hD hS 0 rfl rfl 8 (by decide) (hts (.fieldLink RX3 37 "PubQuizzes$State" "markers" "[I") (by decide +kernel)) (fun _ h9 => h9) rfl hin rfl (by decide +kernel) rfl rfl (Nat.le_of_ble_eq_true rfl) dX3_init_90 (fun H locs hP hD hS => ?_)
  have hP : va_P g.1 vwCl ([(h0, .inr (2, [.ref q6, .ref q32, .ref q40, .ref q48, .ref q56, .ref q64, .ref q72, .ref q80, .ref q88, .null, .int 0, .int 0])), (q6, .inl (g.2 0, 4, .inl (upd (upd (upd (upd (fun _ => 0) 0 10) 1 10) 2 0) 3 2))), (q32, .inl (g.2 0, 10, .inl (fun _ => 0))), (q40, .inl (g.2 0, 10, .inl (fun _ => 0))), (q48, .inl (g.2 0, 10, .inl (fun _ => 0))), (q56, .inl (g.2 0, 10, .inl (fun _ => 0))), (q64, .inl (g.2 1, 8, .inr (.inl (fun _ => 0)))), (q72, .inl (g.2 1, 80, .inr (.inl (fun _ => 0)))), (q80, .inl (g.2 0, 80, .inl (fun _ => 0))), (q88, .inl (g.2 0, 80, .inl (fun _ => 0)))]) H := hP
  have hD : va_D A ([(h0, .inr (2, [.ref q6, .ref q32, .ref q40, .ref q48, .ref q56, .ref q64, .ref q72, .ref q80, .ref q88, .null, .int 0, .int 0])), (q6, .inl (g.2 0, 4, .inl (upd (upd (upd (upd (fun _ => 0) 0 10) 1 10) 2 0) 3 2))), (q32, .inl (g.2 0, 10, .inl (fun _ => 0))), (q40, .inl (g.2 0, 10, .inl (fun _ => 0))), (q48, .inl (g.2 0, 10, .inl (fun _ => 0))), (q56, .inl (g.2 0, 10, .inl (fun _ => 0))), (q64, .inl (g.2 1, 8, .inr (.inl (fun _ => 0)))), (q72, .inl (g.2 1, 80, .inr (.inl (fun _ => 0)))), (q80, .inl (g.2 0, 80, .inl (fun _ => 0))), (q88, .inl (g.2 0, 80, .inl (fun _ => 0)))]) := hD
  refine lv_aload_n hx hb dX3_init_93 rfl (lv_at hl 0 rfl) ?_
  refine lv_bipush (v := 8) hx hb dX3_init_94 (by decide) ?_
  refine va_newa (atype := .int) (ty := .int) (N' := 8) (a0 := (8, .inl (fun _ => 0))) hx hb (hts (.arrayClass .int) (by decide +kernel)) rfl hK hP hD hS hA (fun _ => rfl) (by decide) (by decide) (Nat.le_of_ble_eq_true rfl) (Nat.le_of_ble_eq_true rfl) (Nat.le_of_ble_eq_true rfl) dX3_init_96 (fun q96 cA H hK9 hP hD hS => ?_)
  have hcA := q_cA0 hK9
  subst hcA
  have hP : va_P g.1 vwCl ([(h0, .inr (2, [.ref q6, .ref q32, .ref q40, .ref q48, .ref q56, .ref q64, .ref q72, .ref q80, .ref q88, .null, .int 0, .int 0])), (q6, .inl (g.2 0, 4, .inl (upd (upd (upd (upd (fun _ => 0) 0 10) 1 10) 2 0) 3 2))), (q32, .inl (g.2 0, 10, .inl (fun _ => 0))), (q40, .inl (g.2 0, 10, .inl (fun _ => 0))), (q48, .inl (g.2 0, 10, .inl (fun _ => 0))), (q56, .inl (g.2 0, 10, .inl (fun _ => 0))), (q64, .inl (g.2 1, 8, .inr (.inl (fun _ => 0)))), (q72, .inl (g.2 1, 80, .inr (.inl (fun _ => 0)))), (q80, .inl (g.2 0, 80, .inl (fun _ => 0))), (q88, .inl (g.2 0, 80, .inl (fun _ => 0))), (q96, .inl (g.2 0, 8, .inl (fun _ => 0)))]) H := hP
  have hD : va_D A ([(h0, .inr (2, [.ref q6, .ref q32, .ref q40, .ref q48, .ref q56, .ref q64, .ref q72, .ref q80, .ref q88, .null, .int 0, .int 0])), (q6, .inl (g.2 0, 4, .inl (upd (upd (upd (upd (fun _ => 0) 0 10) 1 10) 2 0) 3 2))), (q32, .inl (g.2 0, 10, .inl (fun _ => 0))), (q40, .inl (g.2 0, 10, .inl (fun _ => 0))), (q48, .inl (g.2 0, 10, .inl (fun _ => 0))), (q56, .inl (g.2 0, 10, .inl (fun _ => 0))), (q64, .inl (g.2 1, 8, .inr (.inl (fun _ => 0)))), (q72, .inl (g.2 1, 80, .inr (.inl (fun _ => 0)))), (q80, .inl (g.2 0, 80, .inl (fun _ => 0))), (q88, .inl (g.2 0, 80, .inl (fun _ => 0))), (q96, .inl (g.2 0, 8, .inl (fun _ => 0)))]) := hD
  refine W.widen (k := 10) (n := 300) (Nat.le_of_ble_eq_true rfl) (Nat.le_of_ble_eq_true rfl) ?_
  refine va_putF (D := g.1) (ci := 2) (v := .ref q96) (ty := .array .int) (C := RX3) (T := TX3) (N := 12) hx hb hts hi_X3 tyX3 tyX3_ok nmX3 hown hK hP hD hS 0 rfl rfl 9 (by decide) (hts (.fieldLink RX3 40 "PubQuizzes$State" "looked" "[I") (by decide +kernel)) (fun _ h9 => h9) rfl hin rfl (by decide +kernel) rfl rfl (Nat.le_of_ble_eq_true rfl) dX3_init_98 (fun H locs hP hD hS => ?_)
  have hP : va_P g.1 vwCl ([(h0, .inr (2, [.ref q6, .ref q32, .ref q40, .ref q48, .ref q56, .ref q64, .ref q72, .ref q80, .ref q88, .ref q96, .int 0, .int 0])), (q6, .inl (g.2 0, 4, .inl (upd (upd (upd (upd (fun _ => 0) 0 10) 1 10) 2 0) 3 2))), (q32, .inl (g.2 0, 10, .inl (fun _ => 0))), (q40, .inl (g.2 0, 10, .inl (fun _ => 0))), (q48, .inl (g.2 0, 10, .inl (fun _ => 0))), (q56, .inl (g.2 0, 10, .inl (fun _ => 0))), (q64, .inl (g.2 1, 8, .inr (.inl (fun _ => 0)))), (q72, .inl (g.2 1, 80, .inr (.inl (fun _ => 0)))), (q80, .inl (g.2 0, 80, .inl (fun _ => 0))), (q88, .inl (g.2 0, 80, .inl (fun _ => 0))), (q96, .inl (g.2 0, 8, .inl (fun _ => 0)))]) H := hP
  have hD : va_D A ([(h0, .inr (2, [.ref q6, .ref q32, .ref q40, .ref q48, .ref q56, .ref q64, .ref q72, .ref q80, .ref q88, .ref q96, .int 0, .int 0])), (q6, .inl (g.2 0, 4, .inl (upd (upd (upd (upd (fun _ => 0) 0 10) 1 10) 2 0) 3 2))), (q32, .inl (g.2 0, 10, .inl (fun _ => 0))), (q40, .inl (g.2 0, 10, .inl (fun _ => 0))), (q48, .inl (g.2 0, 10, .inl (fun _ => 0))), (q56, .inl (g.2 0, 10, .inl (fun _ => 0))), (q64, .inl (g.2 1, 8, .inr (.inl (fun _ => 0)))), (q72, .inl (g.2 1, 80, .inr (.inl (fun _ => 0)))), (q80, .inl (g.2 0, 80, .inl (fun _ => 0))), (q88, .inl (g.2 0, 80, .inl (fun _ => 0))), (q96, .inl (g.2 0, 8, .inl (fun _ => 0)))]) := hD
  refine lv_aload_n hx hb dX3_init_101 rfl (lv_at hl 0 rfl) ?_
  refine lv_bipush (v := (-6)) hx hb dX3_init_102 (by decide) ?_
  refine va_put (D := g.1) (ci := 2) (v := .int (-6)) (ty := .int) (C := RX3) (T := TX3) (N := 12) hx hb hts hi_X3 tyX3 tyX3_ok nmX3 hown hK hP hD hS 0 rfl rfl 11 (by decide) (hts (.fieldLink RX3 43 "PubQuizzes$State" "truth" "I") (by decide +kernel)) (fun _ h9 => h9) rfl (by decide +kernel) rfl rfl (Nat.le_of_ble_eq_true rfl) dX3_init_104 (fun H locs hP hD hS => ?_)
  have hP : va_P g.1 vwCl ([(h0, .inr (2, [.ref q6, .ref q32, .ref q40, .ref q48, .ref q56, .ref q64, .ref q72, .ref q80, .ref q88, .ref q96, .int 0, .int (-6)])), (q6, .inl (g.2 0, 4, .inl (upd (upd (upd (upd (fun _ => 0) 0 10) 1 10) 2 0) 3 2))), (q32, .inl (g.2 0, 10, .inl (fun _ => 0))), (q40, .inl (g.2 0, 10, .inl (fun _ => 0))), (q48, .inl (g.2 0, 10, .inl (fun _ => 0))), (q56, .inl (g.2 0, 10, .inl (fun _ => 0))), (q64, .inl (g.2 1, 8, .inr (.inl (fun _ => 0)))), (q72, .inl (g.2 1, 80, .inr (.inl (fun _ => 0)))), (q80, .inl (g.2 0, 80, .inl (fun _ => 0))), (q88, .inl (g.2 0, 80, .inl (fun _ => 0))), (q96, .inl (g.2 0, 8, .inl (fun _ => 0)))]) H := hP
  have hD : va_D A ([(h0, .inr (2, [.ref q6, .ref q32, .ref q40, .ref q48, .ref q56, .ref q64, .ref q72, .ref q80, .ref q88, .ref q96, .int 0, .int (-6)])), (q6, .inl (g.2 0, 4, .inl (upd (upd (upd (upd (fun _ => 0) 0 10) 1 10) 2 0) 3 2))), (q32, .inl (g.2 0, 10, .inl (fun _ => 0))), (q40, .inl (g.2 0, 10, .inl (fun _ => 0))), (q48, .inl (g.2 0, 10, .inl (fun _ => 0))), (q56, .inl (g.2 0, 10, .inl (fun _ => 0))), (q64, .inl (g.2 1, 8, .inr (.inl (fun _ => 0)))), (q72, .inl (g.2 1, 80, .inr (.inl (fun _ => 0)))), (q80, .inl (g.2 0, 80, .inl (fun _ => 0))), (q88, .inl (g.2 0, 80, .inl (fun _ => 0))), (q96, .inl (g.2 0, 8, .inl (fun _ => 0)))]) := hD
  refine lv_aload_n hx hb dX3_init_107 rfl (lv_at hl 0 rfl) ?_
  refine va_get (D := g.1) (ci := 2) (v := .ref q40) (C := RX3) (T := TX3) (N := 12) hx hb hts hi_X3 hown hK hP 0 rfl rfl 2 (by decide) (hts (.fieldLink RX3 18 "PubQuizzes$State" "jokers" "[I") (by decide +kernel)) (fun _ h9 => h9) rfl dX3_init_108 ?_
  refine lv_bipush (v := (-6)) hx hb dX3_init_111 (by decide) ?_
  have hP2 : va_P g.1 vwCl [(q40, .inl (g.2 0, 10, .inl (fun _ => 0)))] H := hP.sub [3] rfl
  refine q_SM (As := [.ref q40, .int (-6)]) (rest := []) (st2 := []) ⟨hx, hb, hml, hown, hts⟩ (c_J7_fill_53178 l g q40 10 (fun _ => 0) (by decide) (-6)) (va_cwS 2 hts gX3_init_J7_fill_53178 rfl rfl rfl (by decide +kernel) ⟨Nat.le_of_ble_eq_true rfl, Nat.le_of_ble_eq_true rfl⟩) q_B2_blind (q_B2_of hP2 hK) rfl hl.1 rfl (Nat.le_of_ble_eq_true rfl) dX3_init_113 (Nat.le_of_ble_eq_true rfl) (Nat.le_of_ble_eq_true rfl) hS (fun x h => h ▸ hD.2 3 _ rfl) rfl rfl rfl (fun H locs hP1 hF1 hS _ => ?_)
  obtain ⟨hP, hD⟩ := q_setJ (k := 3) hP hD rfl hP1 hF1
  have hP : va_P g.1 vwCl ([(h0, .inr (2, [.ref q6, .ref q32, .ref q40, .ref q48, .ref q56, .ref q64, .ref q72, .ref q80, .ref q88, .ref q96, .int 0, .int (-6)])), (q6, .inl (g.2 0, 4, .inl (upd (upd (upd (upd (fun _ => 0) 0 10) 1 10) 2 0) 3 2))), (q32, .inl (g.2 0, 10, .inl (fun _ => 0))), (q40, .inl (g.2 0, 10, .inl (flF (fun _ => 0) (-6) 10))), (q48, .inl (g.2 0, 10, .inl (fun _ => 0))), (q56, .inl (g.2 0, 10, .inl (fun _ => 0))), (q64, .inl (g.2 1, 8, .inr (.inl (fun _ => 0)))), (q72, .inl (g.2 1, 80, .inr (.inl (fun _ => 0)))), (q80, .inl (g.2 0, 80, .inl (fun _ => 0))), (q88, .inl (g.2 0, 80, .inl (fun _ => 0))), (q96, .inl (g.2 0, 8, .inl (fun _ => 0)))]) H := hP
  have hD : va_D A ([(h0, .inr (2, [.ref q6, .ref q32, .ref q40, .ref q48, .ref q56, .ref q64, .ref q72, .ref q80, .ref q88, .ref q96, .int 0, .int (-6)])), (q6, .inl (g.2 0, 4, .inl (upd (upd (upd (upd (fun _ => 0) 0 10) 1 10) 2 0) 3 2))), (q32, .inl (g.2 0, 10, .inl (fun _ => 0))), (q40, .inl (g.2 0, 10, .inl (flF (fun _ => 0) (-6) 10))), (q48, .inl (g.2 0, 10, .inl (fun _ => 0))), (q56, .inl (g.2 0, 10, .inl (fun _ => 0))), (q64, .inl (g.2 1, 8, .inr (.inl (fun _ => 0)))), (q72, .inl (g.2 1, 80, .inr (.inl (fun _ => 0)))), (q80, .inl (g.2 0, 80, .inl (fun _ => 0))), (q88, .inl (g.2 0, 80, .inl (fun _ => 0))), (q96, .inl (g.2 0, 8, .inl (fun _ => 0)))]) := hD
  refine lv_aload_n hx hb dX3_init_116 rfl (lv_at hl 0 rfl) ?_
  refine va_get (D := g.1) (ci := 2) (v := .ref q56) (C := RX3) (T := TX3) (N := 12) hx hb hts hi_X3 hown hK hP 0 rfl rfl 4 (by decide) (hts (.fieldLink RX3 24 "PubQuizzes$State" "guesses" "[I") (by decide +kernel)) (fun _ h9 => h9) rfl dX3_init_117 ?_
  refine lv_bipush (v := (-6)) hx hb dX3_init_120 (by decide) ?_
  have hP2 : va_P g.1 vwCl [(q56, .inl (g.2 0, 10, .inl (fun _ => 0)))] H := hP.sub [5] rfl
  refine q_SM (As := [.ref q56, .int (-6)]) (rest := []) (st2 := []) ⟨hx, hb, hml, hown, hts⟩ (c_J7_fill_53178 l g q56 10 (fun _ => 0) (by decide) (-6)) (va_cwS 2 hts gX3_init_J7_fill_53178 rfl rfl rfl (by decide +kernel) ⟨Nat.le_of_ble_eq_true rfl, Nat.le_of_ble_eq_true rfl⟩) q_B2_blind (q_B2_of hP2 hK) rfl hl.1 rfl (Nat.le_of_ble_eq_true rfl) dX3_init_122 (Nat.le_of_ble_eq_true rfl) (Nat.le_of_ble_eq_true rfl) hS (fun x h => h ▸ hD.2 5 _ rfl) rfl rfl rfl (fun H locs hP1 hF1 hS _ => ?_)
  obtain ⟨hP, hD⟩ := q_setJ (k := 5) hP hD rfl hP1 hF1
  have hP : va_P g.1 vwCl ([(h0, .inr (2, [.ref q6, .ref q32, .ref q40, .ref q48, .ref q56, .ref q64, .ref q72, .ref q80, .ref q88, .ref q96, .int 0, .int (-6)])), (q6, .inl (g.2 0, 4, .inl (upd (upd (upd (upd (fun _ => 0) 0 10) 1 10) 2 0) 3 2))), (q32, .inl (g.2 0, 10, .inl (fun _ => 0))), (q40, .inl (g.2 0, 10, .inl (flF (fun _ => 0) (-6) 10))), (q48, .inl (g.2 0, 10, .inl (fun _ => 0))), (q56, .inl (g.2 0, 10, .inl (flF (fun _ => 0) (-6) 10))), (q64, .inl (g.2 1, 8, .inr (.inl (fun _ => 0)))), (q72, .inl (g.2 1, 80, .inr (.inl (fun _ => 0)))), (q80, .inl (g.2 0, 80, .inl (fun _ => 0))), (q88, .inl (g.2 0, 80, .inl (fun _ => 0))), (q96, .inl (g.2 0, 8, .inl (fun _ => 0)))]) H := hP
  have hD : va_D A ([(h0, .inr (2, [.ref q6, .ref q32, .ref q40, .ref q48, .ref q56, .ref q64, .ref q72, .ref q80, .ref q88, .ref q96, .int 0, .int (-6)])), (q6, .inl (g.2 0, 4, .inl (upd (upd (upd (upd (fun _ => 0) 0 10) 1 10) 2 0) 3 2))), (q32, .inl (g.2 0, 10, .inl (fun _ => 0))), (q40, .inl (g.2 0, 10, .inl (flF (fun _ => 0) (-6) 10))), (q48, .inl (g.2 0, 10, .inl (fun _ => 0))), (q56, .inl (g.2 0, 10, .inl (flF (fun _ => 0) (-6) 10))), (q64, .inl (g.2 1, 8, .inr (.inl (fun _ => 0)))), (q72, .inl (g.2 1, 80, .inr (.inl (fun _ => 0)))), (q80, .inl (g.2 0, 80, .inl (fun _ => 0))), (q88, .inl (g.2 0, 80, .inl (fun _ => 0))), (q96, .inl (g.2 0, 8, .inl (fun _ => 0)))]) := hD
  refine lv_aload_n hx hb dX3_init_125 rfl (lv_at hl 0 rfl) ?_
  refine va_get (D := g.1) (ci := 2) (v := .ref q64) (C := RX3) (T := TX3) (N := 12) hx hb hts hi_X3 hown hK hP 0 rfl rfl 5 (by decide) (hts (.fieldLink RX3 27 "PubQuizzes$State" "keys" "[J") (by decide +kernel)) (fun _ h9 => h9) rfl dX3_init_126 ?_
  refine lv_ldc2 (v := (-1)) hx hb hown (hts (.constantLong RX3 55 (-1)) (by decide +kernel)) dX3_init_129 ?_
  have hP2 : va_P g.1 vwCl [(q64, .inl (g.2 1, 8, .inr (.inl (fun _ => 0))))] H := hP.sub [6] rfl
  refine q_SM (As := [.ref q64, .long (-1)]) (rest := []) (st2 := []) ⟨hx, hb, hml, hown, hts⟩ (c_J7_fill_d0a16 l g q64 8 (fun _ => 0) (by decide) (-1)) (va_cwS 2 hts gX3_init_J7_fill_d0a16 rfl rfl rfl (by decide +kernel) ⟨Nat.le_of_ble_eq_true rfl, Nat.le_of_ble_eq_true rfl⟩) q_B2_blind (q_B2_of hP2 hK) rfl hl.1 rfl (Nat.le_of_ble_eq_true rfl) dX3_init_132 (Nat.le_of_ble_eq_true rfl) (Nat.le_of_ble_eq_true rfl) hS (fun x h => h ▸ hD.2 6 _ rfl) rfl rfl rfl (fun H locs hP1 hF1 hS _ => ?_)
  obtain ⟨hP, hD⟩ := q_setJ (k := 6) hP hD rfl hP1 hF1
  have hP : va_P g.1 vwCl ([(h0, .inr (2, [.ref q6, .ref q32, .ref q40, .ref q48, .ref q56, .ref q64, .ref q72, .ref q80, .ref q88, .ref q96, .int 0, .int (-6)])), (q6, .inl (g.2 0, 4, .inl (upd (upd (upd (upd (fun _ => 0) 0 10) 1 10) 2 0) 3 2))), (q32, .inl (g.2 0, 10, .inl (fun _ => 0))), (q40, .inl (g.2 0, 10, .inl (flF (fun _ => 0) (-6) 10))), (q48, .inl (g.2 0, 10, .inl (fun _ => 0))), (q56, .inl (g.2 0, 10, .inl (flF (fun _ => 0) (-6) 10))), (q64, .inl (g.2 1, 8, .inr (.inl (flL (fun _ => 0) (-1) 8)))), (q72, .inl (g.2 1, 80, .inr (.inl (fun _ => 0)))), (q80, .inl (g.2 0, 80, .inl (fun _ => 0))), (q88, .inl (g.2 0, 80, .inl (fun _ => 0))), (q96, .inl (g.2 0, 8, .inl (fun _ => 0)))]) H := hP
  have hD : va_D A ([(h0, .inr (2, [.ref q6, .ref q32, .ref q40, .ref q48, .ref q56, .ref q64, .ref q72, .ref q80, .ref q88, .ref q96, .int 0, .int (-6)])), (q6, .inl (g.2 0, 4, .inl (upd (upd (upd (upd (fun _ => 0) 0 10) 1 10) 2 0) 3 2))), (q32, .inl (g.2 0, 10, .inl (fun _ => 0))), (q40, .inl (g.2 0, 10, .inl (flF (fun _ => 0) (-6) 10))), (q48, .inl (g.2 0, 10, .inl (fun _ => 0))), (q56, .inl (g.2 0, 10, .inl (flF (fun _ => 0) (-6) 10))), (q64, .inl (g.2 1, 8, .inr (.inl (flL (fun _ => 0) (-1) 8)))), (q72, .inl (g.2 1, 80, .inr (.inl (fun _ => 0)))), (q80, .inl (g.2 0, 80, .inl (fun _ => 0))), (q88, .inl (g.2 0, 80, .inl (fun _ => 0))), (q96, .inl (g.2 0, 8, .inl (fun _ => 0)))]) := hD
  refine lv_aload_n hx hb dX3_init_135 rfl (lv_at hl 0 rfl) ?_
  refine va_get (D := g.1) (ci := 2) (v := .ref q72) (C := RX3) (T := TX3) (N := 12) hx hb hts hi_X3 hown hK hP 0 rfl rfl 6 (by decide) (hts (.fieldLink RX3 31 "PubQuizzes$State" "sheets" "[J") (by decide +kernel)) (fun _ h9 => h9) rfl dX3_init_136 ?_
  refine lv_ldc2 (v := (-1)) hx hb hown (hts (.constantLong RX3 55 (-1)) (by decide +kernel)) dX3_init_139 ?_
  have hP2 : va_P g.1 vwCl [(q72, .inl (g.2 1, 80, .inr (.inl (fun _ => 0))))] H := hP.sub [7] rfl
  refine q_SM (As := [.ref q72, .long (-1)]) (rest := []) (st2 := []) ⟨hx, hb, hml, hown, hts⟩ (c_J7_fill_d0a16 l g q72 80 (fun _ => 0) (by decide) (-1)) (va_cwS 2 hts gX3_init_J7_fill_d0a16 rfl rfl rfl (by decide +kernel) ⟨Nat.le_of_ble_eq_true rfl, Nat.le_of_ble_eq_true rfl⟩) q_B2_blind (q_B2_of hP2 hK) rfl hl.1 rfl (Nat.le_of_ble_eq_true rfl) dX3_init_142 (Nat.le_of_ble_eq_true rfl) (Nat.le_of_ble_eq_true rfl) hS (fun x h => h ▸ hD.2 7 _ rfl) rfl rfl rfl (fun H locs hP1 hF1 hS _ => ?_)
  obtain ⟨hP, hD⟩ := q_setJ (k := 7) hP hD rfl hP1 hF1
  have hP : va_P g.1 vwCl ([(h0, .inr (2, [.ref q6, .ref q32, .ref q40, .ref q48, .ref q56, .ref q64, .ref q72, .ref q80, .ref q88, .ref q96, .int 0, .int (-6)])), (q6, .inl (g.2 0, 4, .inl (upd (upd (upd (upd (fun _ => 0) 0 10) 1 10) 2 0) 3 2))), (q32, .inl (g.2 0, 10, .inl (fun _ => 0))), (q40, .inl (g.2 0, 10, .inl (flF (fun _ => 0) (-6) 10))), (q48, .inl (g.2 0, 10, .inl (fun _ => 0))), (q56, .inl (g.2 0, 10, .inl (flF (fun _ => 0) (-6) 10))), (q64, .inl (g.2 1, 8, .inr (.inl (flL (fun _ => 0) (-1) 8)))), (q72, .inl (g.2 1, 80, .inr (.inl (flL (fun _ => 0) (-1) 80)))), (q80, .inl (g.2 0, 80, .inl (fun _ => 0))), (q88, .inl (g.2 0, 80, .inl (fun _ => 0))), (q96, .inl (g.2 0, 8, .inl (fun _ => 0)))]) H := hP
  have hD : va_D A ([(h0, .inr (2, [.ref q6, .ref q32, .ref q40, .ref q48, .ref q56, .ref q64, .ref q72, .ref q80, .ref q88, .ref q96, .int 0, .int (-6)])), (q6, .inl (g.2 0, 4, .inl (upd (upd (upd (upd (fun _ => 0) 0 10) 1 10) 2 0) 3 2))), (q32, .inl (g.2 0, 10, .inl (fun _ => 0))), (q40, .inl (g.2 0, 10, .inl (flF (fun _ => 0) (-6) 10))), (q48, .inl (g.2 0, 10, .inl (fun _ => 0))), (q56, .inl (g.2 0, 10, .inl (flF (fun _ => 0) (-6) 10))), (q64, .inl (g.2 1, 8, .inr (.inl (flL (fun _ => 0) (-1) 8)))), (q72, .inl (g.2 1, 80, .inr (.inl (flL (fun _ => 0) (-1) 80)))), (q80, .inl (g.2 0, 80, .inl (fun _ => 0))), (q88, .inl (g.2 0, 80, .inl (fun _ => 0))), (q96, .inl (g.2 0, 8, .inl (fun _ => 0)))]) := hD
  refine lv_aload_n hx hb dX3_init_145 rfl (lv_at hl 0 rfl) ?_
  refine va_get (D := g.1) (ci := 2) (v := .ref q88) (C := RX3) (T := TX3) (N := 12) hx hb hts hi_X3 hown hK hP 0 rfl rfl 8 (by decide) (hts (.fieldLink RX3 37 "PubQuizzes$State" "markers" "[I") (by decide +kernel)) (fun _ h9 => h9) rfl dX3_init_146 ?_
  refine lv_bipush (v := (-6)) hx hb dX3_init_149 (by decide) ?_
  have hP2 : va_P g.1 vwCl [(q88, .inl (g.2 0, 80, .inl (fun _ => 0)))] H := hP.sub [9] rfl
  refine q_SM (As := [.ref q88, .int (-6)]) (rest := []) (st2 := []) ⟨hx, hb, hml, hown, hts⟩ (c_J7_fill_53178 l g q88 80 (fun _ => 0) (by decide) (-6)) (va_cwS 2 hts gX3_init_J7_fill_53178 rfl rfl rfl (by decide +kernel) ⟨Nat.le_of_ble_eq_true rfl, Nat.le_of_ble_eq_true rfl⟩) q_B2_blind (q_B2_of hP2 hK) rfl hl.1 rfl (Nat.le_of_ble_eq_true rfl) dX3_init_151 (Nat.le_of_ble_eq_true rfl) (Nat.le_of_ble_eq_true rfl) hS (fun x h => h ▸ hD.2 9 _ rfl) rfl rfl rfl (fun H locs hP1 hF1 hS _ => ?_)
  obtain ⟨hP, hD⟩ := q_setJ (k := 9) hP hD rfl hP1 hF1
  have hP : va_P g.1 vwCl ([(h0, .inr (2, [.ref q6, .ref q32, .ref q40, .ref q48, .ref q56, .ref q64, .ref q72, .ref q80, .ref q88, .ref q96, .int 0, .int (-6)])), (q6, .inl (g.2 0, 4, .inl (upd (upd (upd (upd (fun _ => 0) 0 10) 1 10) 2 0) 3 2))), (q32, .inl (g.2 0, 10, .inl (fun _ => 0))), (q40, .inl (g.2 0, 10, .inl (flF (fun _ => 0) (-6) 10))), (q48, .inl (g.2 0, 10, .inl (fun _ => 0))), (q56, .inl (g.2 0, 10, .inl (flF (fun _ => 0) (-6) 10))), (q64, .inl (g.2 1, 8, .inr (.inl (flL (fun _ => 0) (-1) 8)))), (q72, .inl (g.2 1, 80, .inr (.inl (flL (fun _ => 0) (-1) 80)))), (q80, .inl (g.2 0, 80, .inl (fun _ => 0))), (q88, .inl (g.2 0, 80, .inl (flF (fun _ => 0) (-6) 80))), (q96, .inl (g.2 0, 8, .inl (fun _ => 0)))]) H := hP
  have hD : va_D A ([(h0, .inr (2, [.ref q6, .ref q32, .ref q40, .ref q48, .ref q56, .ref q64, .ref q72, .ref q80, .ref q88, .ref q96, .int 0, .int (-6)])), (q6, .inl (g.2 0, 4, .inl (upd (upd (upd (upd (fun _ => 0) 0 10) 1 10) 2 0) 3 2))), (q32, .inl (g.2 0, 10, .inl (fun _ => 0))), (q40, .inl (g.2 0, 10, .inl (flF (fun _ => 0) (-6) 10))), (q48, .inl (g.2 0, 10, .inl (fun _ => 0))), (q56, .inl (g.2 0, 10, .inl (flF (fun _ => 0) (-6) 10))), (q64, .inl (g.2 1, 8, .inr (.inl (flL (fun _ => 0) (-1) 8)))), (q72, .inl (g.2 1, 80, .inr (.inl (flL (fun _ => 0) (-1) 80)))), (q80, .inl (g.2 0, 80, .inl (fun _ => 0))), (q88, .inl (g.2 0, 80, .inl (flF (fun _ => 0) (-6) 80))), (q96, .inl (g.2 0, 8, .inl (fun _ => 0)))]) := hD
  have hP : va_P g.1 vwCl (q_stW g (fun k => [h0, q6, q32, q40, q48, q56, q64, q72, q80, q88, q96].getD k 0) q_S0) H := hP
  have hD : va_D A (q_stW g (fun k => [h0, q6, q32, q40, q48, q56, q64, q72, q80, q88, q96].getD k 0) q_S0) := hD
  refine W.widen (k := 10) (n := 300) (Nat.le_of_ble_eq_true rfl) (Nat.le_of_ble_eq_true rfl) ?_
  exact W.vret hx hb hr (fun t ht _ => ⟨⟨(), rfl, trivial, fun k => [h0, q6, q32, q40, q48, q56, q64, q72, q80, q88, q96].getD k 0, rfl, by rw [ht]; exact hP, hD⟩, hS.F ht⟩) hS.2.2 dX3_init_154 hlk

set_option maxHeartbeats 4000000 in
set_option maxRecDepth 100000 in
theorem c_X1_init (l : Launch) (g : q_G) (h0 sz : Nat) : Met l yX1_init wsX1_init { frames := 1, cells := 1, slots := 80, locals := 40 } (va_Pc [.ref h0] (q_NB g [(h0, .inr (1, [.null, .int 0]))] sz)) (q_NQ g (va_A [(h0, .inr (1, [.null, .int 0]))] sz) (X := Nat) (fun _ => True) (fun q => [(h0, .inr (1, [.ref q, .int 0])), (q, .inl (g.2 0, 80, .inl (fun _ => 0)))])) 1 80 (va_A [(h0, .inr (1, [.null, .int 0]))] sz) := by
  refine Met.ofW (cc := cX1_init) (maxL := 1) (ret := none) (by decide) rfl ?_
  intro p e s m args below meth c s₁ B hml hv
  obtain ⟨rfl, hsz, hP, hK, hD0⟩ := hv
  have hx := B.exec
  have hb := B.bytes
  have hr := B.returns
  have hts := atoms_spec (ws := wsX1_init) B.pre
  have hown : s.vm.findClass RX1 = some m.cls := findClass_of_methodNamed B.named
  have hlk := B.notSynchronized
  have hin : meth.name = "<init>" := (name_of_methodNamed B.named B.method).1
  subst hsz
  have hD := hD0.self (sz := s.heap.size)
  generalize hAe : va_A [(h0, .inr (1, [.null, .int 0]))] s.heap.size = A at hD ⊢
  have hA : ∀ q : Nat, s.heap.size ≤ q → A q := fun q h => by rw [← hAe]; exact Or.inr h
  have hS : va_S A s.heap s.heap [] := va_S.rf
  have hl := lv_entry ([.ref h0]) (n := 1) (Nat.le_of_ble_eq_true rfl)
  rw [lg_entry_eq]
  generalize (lg_sl ([.ref h0]) ++ List.replicate (1 - (lg_sl ([.ref h0])).length) Slot.unset).toArray = ls at hl ⊢
  have hl : lv_has ls 1 [(0, .ref h0)] := hl
  have hP : va_P g.1 vwCl ([(h0, .inr (1, [.null, .int 0]))]) s.heap := hP
  have hD : va_D A ([(h0, .inr (1, [.null, .int 0]))]) := hD
  have hi_X1 : ∀ w ∈ u_ws RX1 TX1 2, w ∈ wsX1_init := by decide +kernel
  refine lv_aload_n hx hb dX1_init_0 rfl (lv_at hl 0 rfl) ?_
  refine W.objInit hx hb hown (hts (.methodLink RX1 3 objectInit) (by decide +kernel)) (hts (.instanceMethod objectInit) (by decide +kernel)) (hts (.code objectInit ⟨#[0xb1]⟩ 1 none) (List.mem_of_getElem? (i := 3) rfl)) rfl (by rw [hml]; exact hl.1) rfl dX1_init_1 (Nat.le_of_ble_eq_true rfl) (Nat.le_of_ble_eq_true rfl) ?_
  refine W.eq (g2 := F0 m 4 ls []) rfl ?_
  refine lv_aload_n hx hb dX1_init_4 rfl (lv_at hl 0 rfl) ?_
  refine lv_bipush (v := 80) hx hb dX1_init_5 (by decide) ?_
  refine va_newa (atype := .int) (ty := .int) (N' := 80) (a0 := (80, .inl (fun _ => 0))) hx hb (hts (.arrayClass .int) (by decide +kernel)) rfl hK hP hD hS hA (fun _ => rfl) (by decide) (by decide) (Nat.le_of_ble_eq_true rfl) (Nat.le_of_ble_eq_true rfl) (Nat.le_of_ble_eq_true rfl) dX1_init_7 (fun q7 cA H hK9 hP hD hS => ?_)
  have hcA := q_cA0 hK9
  subst hcA
  have hP : va_P g.1 vwCl ([(h0, .inr (1, [.null, .int 0])), (q7, .inl (g.2 0, 80, .inl (fun _ => 0)))]) H := hP
  have hD : va_D A ([(h0, .inr (1, [.null, .int 0])), (q7, .inl (g.2 0, 80, .inl (fun _ => 0)))]) := hD
  refine W.widen (k := 1) (n := 80) (Nat.le_of_ble_eq_true rfl) (Nat.le_of_ble_eq_true rfl) ?_
  refine va_putF (D := g.1) (ci := 1) (v := .ref q7) (ty := .array .int) (C := RX1) (T := TX1) (N := 2) hx hb hts hi_X1 tyX1 tyX1_ok nmX1 hown hK hP hD hS 0 rfl rfl 0 (by decide) (hts (.fieldLink RX1 11 "PubQuizzes$Pad" "codes" "[I") (by decide +kernel)) (fun _ h9 => h9) rfl hin rfl (by decide +kernel) rfl rfl (Nat.le_of_ble_eq_true rfl) dX1_init_9 (fun H locs hP hD hS => ?_)
  have hP : va_P g.1 vwCl ([(h0, .inr (1, [.ref q7, .int 0])), (q7, .inl (g.2 0, 80, .inl (fun _ => 0)))]) H := hP
  have hD : va_D A ([(h0, .inr (1, [.ref q7, .int 0])), (q7, .inl (g.2 0, 80, .inl (fun _ => 0)))]) := hD
  refine W.widen (k := 1) (n := 80) (Nat.le_of_ble_eq_true rfl) (Nat.le_of_ble_eq_true rfl) ?_
  exact W.vret hx hb hr (fun t ht _ => ⟨⟨(), rfl, trivial, q7, trivial, by rw [ht]; exact hP, hD⟩, hS.F ht⟩) hS.2.2 dX1_init_12 hlk
