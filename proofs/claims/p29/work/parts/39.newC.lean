/-! constructors that make states in a loop -/
def q_NP (U : State) : Prop := va_Nw (.methodLinkNest RX4 25 yX1_init RX4) U
def q_NB3 (g : q_G) (W : va_W) (sz : Nat) (U : State) : Prop := q_NB g W sz U ∧ va_AO "PubQuizzes$State" U ∧ q_NP U
theorem q_NB3_blind {g : q_G} {W : va_W} {sz : Nat} : q_Blind (q_NB3 g W sz) := fun a U f mk h => ⟨q_NB_blind a U f mk h.1, va_AO.moved (u := U) (U := U.calling f mk a) (Vm.Alike.refl U.vm) h.2.1, va_Nw.same rfl rfl h.2.2⟩
theorem q_NB3_of {g : q_G} {A : Nat → Prop} {W : va_W} {H : Heap} {s : State} (hP : va_P g.1 vwCl W H) (hK : va_K g.1 vwCl (q_ty g) s) (hD : va_D A W) (hO : va_AO "PubQuizzes$State" s) (hN : q_NP s) : ∀ U : State, U.heap = H → s.WarmedH U.vm → q_NB3 g W H.size U :=
  fun U hU hW => ⟨q_NB_of hP hK hD U hU hW, va_AO.moved hW.alike hO, va_Nw.warmM hW hN⟩
theorem q_pool_app {g : q_G} {a : Nat → Nat → Nat} {X : Nat → q_St} : ∀ (n i m : Nat), q_poolW g a X i (n + m) = q_poolW g a X i n ++ q_poolW g a X (i + n) m
  | 0, i, m => by rw [Nat.zero_add]; rfl
  | n + 1, i, m => by
    rw [show n + 1 + m = (n + m) + 1 from by omega]
    show q_stW g (a i) (X i) ++ q_poolW g a X (i + 1) (n + m) = (q_stW g (a i) (X i) ++ q_poolW g a X (i + 1) n) ++ q_poolW g a X (i + (n + 1)) m
    rw [q_pool_app n (i + 1) m, List.append_assoc, show i + 1 + n = i + (n + 1) from by omega]
theorem q_pool_c {g : q_G} {a a' : Nat → Nat → Nat} {X : Nat → q_St} : ∀ (n i : Nat), (∀ j, i ≤ j → j < i + n → a j = a' j) → q_poolW g a X i n = q_poolW g a' X i n
  | 0, _, _ => rfl
  | n + 1, i, h => by
    show q_stW g (a i) (X i) ++ q_poolW g a X (i + 1) n = q_stW g (a' i) (X i) ++ q_poolW g a' X (i + 1) n
    rw [h i (Nat.le_refl i) (by omega), q_pool_c n (i + 1) fun j h1 h2 => h j (by omega) (by omega)]
theorem q_pool_n {g : q_G} {b : Nat → Nat → Nat} {X : Nat → q_St} {q : Nat → Nat} (o n : Nat) : q_poolW g (va_up b (n + o) q) X o (n + 1) = q_poolW g b X o n ++ q_stW g q (X (n + o)) := by
  rw [q_pool_app n o 1, q_pool_c (a := va_up b (n + o) q) (a' := b) n o fun j h1 h2 => va_up_ne b q (by omega)]
  congr 1
  show q_stW g (va_up b (n + o) q (o + n)) (X (o + n)) ++ [] = _
  rw [List.append_nil, Nat.add_comm o n, va_up_self]
def rfF (b : Nat → Nat → Nat) (o i : Nat) : Nat → Option Nat := fun j => if j < i then some (b (j + o) 0) else none
theorem rf_s {b : Nat → Nat → Nat} {q : Nat → Nat} (o i : Nat) : rfF (va_up b (i + o) q) o (i + 1) = va_up (rfF b o i) i (some (q 0)) := by
  funext j
  unfold rfF
  by_cases c : j = i
  · subst c
    rw [va_up_self, if_pos (by omega), va_up_self]
  · rw [va_up_ne _ _ c, va_up_ne b q (by omega)]
    by_cases d : j < i
    · rw [if_pos d, if_pos (by omega)]
    · rw [if_neg d, if_neg (by omega)]
theorem rf_0 (b : Nat → Nat → Nat) (o : Nat) : rfF b o 0 = fun _ => none := by
  funext j; unfold rfF; rw [if_neg (by omega)]
theorem q_cell_q {cA : ClassId} {n : Nat} {f f' : Nat → Option Nat} (h : ∀ j, j < n → f j = f' j) : vp_cell cA (n, .inr (.inr (.inr (.inr f)))) = vp_cell cA (n, .inr (.inr (.inr (.inr f')))) := by
  rw [vp_cell_q, vp_cell_q]
  unfold arrV
  congr 1
  exact congrArg Array.ofFn (funext fun j => congrArg va_rf (h j.val j.isLt))
theorem q_Pset {D : va_G} {cl : List vw_C} {ws : va_W} {H : Heap} {k q : Nat} {e0 e1 : va_E} (hP : va_P D cl ws H) (hk : ws[k]? = some (q, e0)) (h1 : va_at D cl (q, e1) H) : va_P D cl (ws.set k (q, e1)) H := by
  have hl := (List.getElem?_eq_some_iff.mp hk).1
  intro i p hp
  by_cases c : i = k
  · subst c
    rw [List.getElem?_set_self hl] at hp
    cases hp
    exact h1
  · rw [List.getElem?_set_ne (fun z => c z.symm)] at hp
    exact hP i p hp
theorem q_Pref {D : va_G} {cl : List vw_C} {ws : va_W} {H : Heap} {k q : Nat} {cA : ClassId} {n : Nat} {f f' : Nat → Option Nat} (hP : va_P D cl ws H) (hk : ws[k]? = some (q, .inl (cA, n, .inr (.inr (.inr (.inr f)))))) (h : ∀ j, j < n → f j = f' j) : va_P D cl (ws.set k (q, .inl (cA, n, .inr (.inr (.inr (.inr f')))))) H := by
  refine q_Pset hP hk ?_
  have h1 : H[q]? = some (vp_cell cA (n, .inr (.inr (.inr (.inr f))))) := hP k _ hk
  show H[q]? = some (vp_cell cA (n, .inr (.inr (.inr (.inr f')))))
  rw [h1, q_cell_q h]
theorem q_D_sw4 {A : Nat → Prop} {a b c d : va_W} (h : va_D A ((a ++ b) ++ (c ++ d))) : va_D A ((a ++ c) ++ (b ++ d)) := by
  have h1 : va_D A ((a ++ (b ++ c)) ++ d) := by rw [List.append_assoc] at h; rw [List.append_assoc, List.append_assoc]; exact h
  have h2 := h1.swap
  have h3 : va_D A (((a ++ d) ++ b) ++ c) := by rw [List.append_assoc]; exact h2
  have h4 := h3.swap
  have h5 : va_D A ((a ++ d) ++ (c ++ b)) := by rw [← List.append_assoc]; exact h4
  have h6 := h5.swap
  rw [List.append_assoc, List.append_assoc] at h6
  rw [List.append_assoc]
  exact h6
theorem q_P_sw4 {D : va_G} {cl : List vw_C} {a b c d : va_W} {H : Heap} (h : va_P D cl ((a ++ b) ++ (c ++ d)) H) : va_P D cl ((a ++ c) ++ (b ++ d)) H := by
  simp only [q_P_app] at h ⊢
  exact ⟨⟨h.1.1, h.2.1⟩, h.1.2, h.2.2⟩

set_option maxHeartbeats 4000000 in
set_option maxRecDepth 100000 in
theorem c_X0_init (l : Launch) (g : q_G) (h0 sz : Nat) : Met l yX0_init wsX0_init { frames := 2, cells := 67, slots := 1878, locals := 60 } (va_Pc [.ref h0] (q_NB3 g [(h0, .inr (0, [.null, .int 0, .int 0]))] sz)) (q_NQ g (va_A [(h0, .inr (0, [.null, .int 0, .int 0]))] sz) (X := (Nat → Nat → Nat) × Nat) (fun _ => True) (fun x => [(h0, .inr (0, [.ref x.2, .int 0, .int 0])), (x.2, .inl (g.2 4, 6, .inr (.inr (.inr (.inr (fun j => some (x.1 (j + 1) 0)))))))] ++ q_poolW g x.1 (fun _ => q_S0) 1 6)) 67 1878 (va_A [(h0, .inr (0, [.null, .int 0, .int 0]))] sz) := by
  refine Met.ofW (cc := cX0_init) (maxL := 2) (ret := none) (by decide) rfl ?_
  intro p e s m args below meth c s₁ B hml hv
  obtain ⟨rfl, ⟨hsz, hP, hK, hD0⟩, hO, hN⟩ := hv
  have hx := B.exec
  have hb := B.bytes
  have hr := B.returns
  have hts := atoms_spec (ws := wsX0_init) B.pre
  have hown : s.vm.findClass RX0 = some m.cls := findClass_of_methodNamed B.named
  have hlk := B.notSynchronized
  have hin : meth.name = "<init>" := (name_of_methodNamed B.named B.method).1
  subst hsz
  have hD := hD0.self (sz := s.heap.size)
  generalize hAe : va_A [(h0, .inr (0, [.null, .int 0, .int 0]))] s.heap.size = A at hD ⊢
  have hA : ∀ q : Nat, s.heap.size ≤ q → A q := fun q h => by rw [← hAe]; exact Or.inr h
  have hS : va_S A s.heap s.heap [] := va_S.rf
  have hl := lv_entry ([.ref h0]) (n := 2) (Nat.le_of_ble_eq_true rfl)
  rw [lg_entry_eq]
  generalize (lg_sl ([.ref h0]) ++ List.replicate (2 - (lg_sl ([.ref h0])).length) Slot.unset).toArray = ls at hl ⊢
  have hl : lv_has ls 2 [(0, .ref h0)] := hl
  have hP : va_P g.1 vwCl ([(h0, .inr (0, [.null, .int 0, .int 0]))]) s.heap := hP
  have hD : va_D A ([(h0, .inr (0, [.null, .int 0, .int 0]))]) := hD
  have hi_X0 : ∀ w ∈ u_ws RX0 TX0 3, w ∈ wsX0_init := by decide +kernel
  have hi_X3 : ∀ w ∈ u_ws RX3 TX3 12, w ∈ wsX0_init := by decide +kernel
  refine lv_aload_n hx hb dX0_init_0 rfl (lv_at hl 0 rfl) ?_
  refine W.objInit hx hb hown (hts (.methodLink RX0 1 objectInit) (by decide +kernel)) (hts (.instanceMethod objectInit) (by decide +kernel)) (hts (.code objectInit ⟨#[0xb1]⟩ 1 none) (List.mem_of_getElem? (i := 3) rfl)) rfl (by rw [hml]; exact hl.1) rfl dX0_init_1 (Nat.le_of_ble_eq_true rfl) (Nat.le_of_ble_eq_true rfl) ?_
  refine W.eq (g2 := F0 m 4 ls []) rfl ?_
  refine lv_aload_n hx hb dX0_init_4 rfl (lv_at hl 0 rfl) ?_
  refine lv_bipush (v := 6) hx hb dX0_init_5 (by decide) ?_
  refine va_newq (C := RX3) (N' := 6) hx hb hown (hts (.classLink RX0 9 RX3) (by decide +kernel)) hO hK hP hD hS hA (by decide) (by decide) (Nat.le_of_ble_eq_true rfl) (Nat.le_of_ble_eq_true rfl) (Nat.le_of_ble_eq_true rfl) dX0_init_7 (fun qa cA H hK9 hP hD hS => ?_)
  have hcA := q_cA4 hK9
  subst hcA
  have hP : va_P g.1 vwCl ([(h0, .inr (0, [.null, .int 0, .int 0])), (qa, .inl (g.2 4, 6, .inr (.inr (.inr (.inr (fun _ => none))))))]) H := hP
  have hD : va_D A ([(h0, .inr (0, [.null, .int 0, .int 0])), (qa, .inl (g.2 4, 6, .inr (.inr (.inr (.inr (fun _ => none))))))]) := hD
  refine W.widen (k := 1) (n := 6) (Nat.le_of_ble_eq_true rfl) (Nat.le_of_ble_eq_true rfl) ?_
  refine va_putF (D := g.1) (ci := 0) (v := .ref qa) (ty := .array (.object "PubQuizzes$State")) (C := RX0) (T := TX0) (N := 3) hx hb hts hi_X0 tyX0 tyX0_ok nmX0 hown hK hP hD hS 0 rfl rfl 0 (by decide) (hts (.fieldLink RX0 11 "PubQuizzes$History" "states" "[LPubQuizzes$State;") (by decide +kernel)) (fun _ h9 => h9) rfl hin rfl (by decide +kernel) rfl rfl (Nat.le_of_ble_eq_true rfl) dX0_init_10 (fun H locs hP hD hS => ?_)
  have hP : va_P g.1 vwCl ([(h0, .inr (0, [.ref qa, .int 0, .int 0])), (qa, .inl (g.2 4, 6, .inr (.inr (.inr (.inr (fun _ => none))))))]) H := hP
  have hD : va_D A ([(h0, .inr (0, [.ref qa, .int 0, .int 0])), (qa, .inl (g.2 4, 6, .inr (.inr (.inr (.inr (fun _ => none))))))]) := hD
  refine lv_iconst (v := 0) hx hb dX0_init_13 (by decide) ?_
  refine lv_istore_n (lv' := [(1, .int 0), (0, .ref h0)]) hx hb dX0_init_14 rfl hl (by decide) rfl (fun ls hl => ?_)
  have L : ∀ (fu i : Nat) (b : Nat → Nat → Nat) (H : Heap) (locs : List Loc), va_P g.1 vwCl ([(h0, .inr (0, [.ref qa, .int 0, .int 0])), (qa, .inl (g.2 4, 6, .inr (.inr (.inr (.inr (rfF b 1 i))))))] ++ q_poolW g b (fun _ => q_S0) 1 i) H → va_D A ([(h0, .inr (0, [.ref qa, .int 0, .int 0])), (qa, .inl (g.2 4, 6, .inr (.inr (.inr (.inr (rfF b 1 i))))))] ++ q_poolW g b (fun _ => q_S0) 1 i) → va_S A s.heap H locs → i ≤ 6 → 6 < i + fu → ∀ ls : Array Slot, lv_has ls 2 [(1, .int (nI i)), (0, .ref h0)] → W p l e { frames := 2, cells := 67, slots := 1878, locals := 60 } s m ([Value.ref h0] : List Value).toArray below meth c H locs (1 + 11 * i) (6 + 312 * i) (MQ below (q_NQ g A (X := (Nat → Nat → Nat) × Nat) (fun _ => True) (fun x => [(h0, .inr (0, [.ref x.2, .int 0, .int 0])), (x.2, .inl (g.2 4, 6, .inr (.inr (.inr (.inr (fun j => some (x.1 (j + 1) 0)))))))] ++ q_poolW g x.1 (fun _ => q_S0) 1 6)) ([Value.ref h0] : List Value).toArray s 67 1878 A) (F0 m 15 ls []) := by
    intro fu
    induction fu with
    | zero => intro i b H locs hP hD hS hi hn; exact absurd hn (by omega)
    | succ fu ih =>
      intro i b H locs hP hD hS hi hn ls hl
      refine lv_iload_n hx hb dX0_init_15 rfl (lv_at hl 0 rfl) ?_
      refine lv_bipush (v := 6) hx hb dX0_init_16 (by decide) ?_
      refine lv_icmp_ge (tgt := 40) hx hb dX0_init_18 (by decide) (fun c1 => ?_) (fun c1 => ?_)
      · skip
        have e1 : i = 6 := q_ge_T (by omega) hi c1
        subst e1
        have hP : va_P g.1 vwCl ([(h0, .inr (0, [.ref qa, .int 0, .int 0])), (qa, .inl (g.2 4, 6, .inr (.inr (.inr (.inr (fun j => some (b (j + 1) 0)))))))] ++ q_poolW g b (fun _ => q_S0) 1 6) H := q_Pref (k := 1) hP rfl (fun j hj => if_pos hj)
        have hD : va_D A ([(h0, .inr (0, [.ref qa, .int 0, .int 0])), (qa, .inl (g.2 4, 6, .inr (.inr (.inr (.inr (fun j => some (b (j + 1) 0)))))))] ++ q_poolW g b (fun _ => q_S0) 1 6) := q_Dset (k := 1) hD rfl
        exact W.vret hx hb hr (fun t ht _ => ⟨⟨(), rfl, trivial, (b, qa), trivial, by rw [ht]; exact hP, hD⟩, hS.F ht⟩) hS.2.2 dX0_init_40 hlk
      · skip
        have lt : i < 6 := q_ge_F (by omega) hi c1
        refine lv_aload_n hx hb dX0_init_21 rfl (lv_at hl 1 rfl) ?_
        refine va_get (D := g.1) (ci := 0) (v := .ref qa) (C := RX0) (T := TX0) (N := 3) hx hb hts hi_X0 hown hK hP 0 rfl rfl 0 (by decide) (hts (.fieldLink RX0 11 "PubQuizzes$History" "states" "[LPubQuizzes$State;") (by decide +kernel)) (fun _ h9 => h9) rfl dX0_init_22 ?_
        refine lv_iload_n hx hb dX0_init_25 rfl (lv_at hl 0 rfl) ?_
        refine va_new (ci := 2) (fs := [.null, .null, .null, .null, .null, .null, .null, .null, .null, .null, .int 0, .int 0]) (C := RX3) (T := TX3) (N := 12) hx hb hts hi_X3 tyX3 tyX3_ok hown (hts (.classLink RX0 9 RX3) (by decide +kernel)) (hts (.instantiable RX3 12) (by decide +kernel)) (hts (.initialized RX3) (by decide +kernel)) hK hP hD hS hA rfl (fun j hj => by rcases (show j = 0 ∨ j = 1 ∨ j = 2 ∨ j = 3 ∨ j = 4 ∨ j = 5 ∨ j = 6 ∨ j = 7 ∨ j = 8 ∨ j = 9 ∨ j = 10 ∨ j = 11 by omega) with rfl | rfl | rfl | rfl | rfl | rfl | rfl | rfl | rfl | rfl | rfl | rfl <;> rfl) (show 1 + 11 * i + 1 ≤ 67 by omega) (show 6 + 312 * i + 12 ≤ 1878 by omega) dX0_init_26 (fun q26 H hP hD hS => ?_)
        have hP : va_P g.1 vwCl (([(h0, .inr (0, [.ref qa, .int 0, .int 0])), (qa, .inl (g.2 4, 6, .inr (.inr (.inr (.inr (rfF b 1 i))))))] ++ q_poolW g b (fun _ => q_S0) 1 i) ++ [(q26, .inr (2, [.null, .null, .null, .null, .null, .null, .null, .null, .null, .null, .int 0, .int 0]))]) H := hP
        have hD : va_D A (([(h0, .inr (0, [.ref qa, .int 0, .int 0])), (qa, .inl (g.2 4, 6, .inr (.inr (.inr (.inr (rfF b 1 i))))))] ++ q_poolW g b (fun _ => q_S0) 1 i) ++ [(q26, .inr (2, [.null, .null, .null, .null, .null, .null, .null, .null, .null, .null, .int 0, .int 0]))]) := hD
        refine lv_dup hx hb dX0_init_29 rfl ?_
        refine q_newC (wr := [(h0, .inr (0, [.ref qa, .int 0, .int 0])), (qa, .inl (g.2 4, 6, .inr (.inr (.inr (.inr (rfF b 1 i))))))] ++ q_poolW g b (fun _ => q_S0) 1 i) (wc := [(q26, .inr (2, [.null, .null, .null, .null, .null, .null, .null, .null, .null, .null, .int 0, .int 0]))]) (X := Nat → Nat) (pr := fun q => q 0 = q26) (w1 := fun q => q_stW g q q_S0) (va_runI (As := []) (rest := [.ref q26, .int (nI i), .ref qa]) ⟨hx, hb, hml, hown, hts⟩ (c_X3_init l g q26 H.size) (cwI 0 hts gX0_init_X3_init rfl rfl rfl (hts (.initialized RX3) (by decide +kernel)) (hts (.methodLink RX0 15 yX3_init) (by decide +kernel)) (hts (.instanceMethod yX3_init) (by decide +kernel)) rfl (by decide +kernel) ⟨Nat.le_of_ble_eq_true rfl, Nat.le_of_ble_eq_true rfl⟩) ⟨fun a U f mk h => ⟨h.1, q_NB_blind a U f mk h.2⟩, fun U hU hW => ⟨rfl, (q_NB_of (q_P_app.mp hP).2 hK (q_D_r hD)) U hU hW⟩⟩ rfl rfl hl.1 rfl (lv_room (Nat.le_of_ble_eq_true rfl)) dX0_init_30 ⟨(show 1 + 11 * i + 1 + 10 ≤ 67 by omega), (show 6 + 312 * i + 12 + 300 ≤ 1878 by omega)⟩) hP hD hS hA rfl rfl (fun q H1 locs1 hq hP1 hD1 hS1 => ?_)
        subst hq
        have hP := hP1
        have hD := hD1
        have hS := hS1
        have hP := hP.swap
        have hD := hD.swap
        refine va_astq (r := (RX3, TX3, 12)) hx hb hK hP hD hS 1 4 2 2 rfl rfl rfl rfl (vp_in_nI lt (by decide)) dX0_init_33 (fun H locs hP hD hS => ?_)
        rw [nI_clamp (by omega)] at hP hD
        have hP : va_P g.1 vwCl (([(h0, .inr (0, [.ref qa, .int 0, .int 0])), (qa, .inl (g.2 4, 6, .inr (.inr (.inr (.inr (va_up (rfF b 1 i) i (some (q 0))))))))] ++ q_stW g q q_S0) ++ q_poolW g b (fun _ => q_S0) 1 i) H := hP
        have hD : va_D A (([(h0, .inr (0, [.ref qa, .int 0, .int 0])), (qa, .inl (g.2 4, 6, .inr (.inr (.inr (.inr (va_up (rfF b 1 i) i (some (q 0))))))))] ++ q_stW g q q_S0) ++ q_poolW g b (fun _ => q_S0) 1 i) := hD
        have hP := hP.swap
        have hD := hD.swap
        have eW : ([(h0, .inr (0, [.ref qa, .int 0, .int 0])), (qa, .inl (g.2 4, 6, .inr (.inr (.inr (.inr (va_up (rfF b 1 i) i (some (q 0))))))))] ++ q_poolW g b (fun _ => q_S0) 1 i) ++ q_stW g q q_S0 = [(h0, .inr (0, [.ref qa, .int 0, .int 0])), (qa, .inl (g.2 4, 6, .inr (.inr (.inr (.inr (rfF (va_up b (i + 1) q) 1 (i + 1)))))))] ++ q_poolW g (va_up b (i + 1) q) (fun _ => q_S0) 1 (i + 1) := by
          rw [q_pool_n 1 i, rf_s 1 i, List.append_assoc]
        rw [eW] at hP hD
        refine lv_iinc (v := nI (i + 1)) (lv' := [(1, .int (nI (i + 1))), (0, .ref h0)]) hx hb dX0_init_34 hl (k := 0) rfl (nI_1 _) (by decide) rfl (fun ls hl => ?_)
        refine lv_goto (tgt := 15) hx hb dX0_init_37 (by decide) ?_
        refine W.widen (k := 1 + 11 * (i + 1)) (n := 6 + 312 * (i + 1)) (by omega) (by omega) ?_
        exact ih (i + 1) (va_up b (i + 1) q) H locs hP hD hS lt (by omega) ls hl
  have eW : [(h0, .inr (0, [.ref qa, .int 0, .int 0])), (qa, .inl (g.2 4, 6, .inr (.inr (.inr (.inr (fun _ => none))))))] = [(h0, .inr (0, [.ref qa, .int 0, .int 0])), (qa, .inl (g.2 4, 6, .inr (.inr (.inr (.inr (rfF (fun _ _ => 0) 1 0))))))] ++ q_poolW g (fun _ _ => 0) (fun _ => q_S0) 1 0 := by
    rw [rf_0]; rfl
  have hP : va_P g.1 vwCl ([(h0, .inr (0, [.ref qa, .int 0, .int 0])), (qa, .inl (g.2 4, 6, .inr (.inr (.inr (.inr (rfF (fun _ _ => 0) 1 0))))))] ++ q_poolW g (fun _ _ => 0) (fun _ => q_S0) 1 0) H := by rw [← eW]; exact hP
  have hD : va_D A ([(h0, .inr (0, [.ref qa, .int 0, .int 0])), (qa, .inl (g.2 4, 6, .inr (.inr (.inr (.inr (rfF (fun _ _ => 0) 1 0))))))] ++ q_poolW g (fun _ _ => 0) (fun _ => q_S0) 1 0) := by rw [← eW]; exact hD
  exact L 7 0 (fun _ _ => 0) H locs hP hD hS (by omega) (by omega) ls hl
