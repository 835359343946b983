/-! the law from its entry -/
set_option maxHeartbeats 4000000 in
set_option maxRecDepth 20000 in
theorem q_start {s : State} {b : Nat} (hts0 : ∀ w ∈ lw_tbl, w.before #[Value.ref b] s = true) : ∃ g : q_G, va_K g.1 vwCl (q_ty g) s := by
  have hts : ∀ w ∈ wsL_law, w.before #[Value.ref b] s = true := fun w h => hts0 w (wsL_law_in w h)
  obtain ⟨c0, i0, k0⟩ := u_known (C := RX0) (T := TX0) (N := 3) (n := 3) hts0 inX0 (hts (.instantiable RX0 3) (by decide +kernel))
  obtain ⟨c1, i1, k1⟩ := u_known (C := RX1) (T := TX1) (N := 2) (n := 2) hts0 inX1 (hts (.instantiable RX1 2) (by decide +kernel))
  obtain ⟨c3, i3, k3⟩ := u_known (C := RX3) (T := TX3) (N := 12) (n := 12) hts0 inX3 (hts (.instantiable RX3 12) (by decide +kernel))
  obtain ⟨c4, i4, k4⟩ := u_known (C := RX4) (T := TX4) (N := 5) (n := 5) hts0 inX4 (hts (.instantiable RX4 5) (by decide +kernel))
  obtain ⟨a0, e0, o0, f0, g0, d0⟩ := Cond.arrayClass_spec (hts (.arrayClass .int) (by decide +kernel))
  obtain ⟨a1, e1, o1, f1, g1, d1⟩ := Cond.arrayClass_spec (hts (.arrayClass .long) (by decide +kernel))
  obtain ⟨a2, e2, o2, f2, g2, d2⟩ := Cond.arrayClass_spec (hts (.arrayClass .boolean) (by decide +kernel))
  obtain ⟨o4, a4, e4, h1, h2, h3, h4, h5⟩ := Cond.arrayOver_spec (hts0 (.arrayOver (.object RX3)) (by decide +kernel))
  refine ⟨((fun k => if k = 0 then c0 else if k = 1 then c1 else if k = 2 then c3 else c4, fun k => if k = 0 then i0 else if k = 1 then i1 else if k = 2 then i3 else i4), fun k => if k = 0 then a0 else if k = 1 then a1 else if k = 2 then a2 else if k = 3 then a2 else a4), ?_, ?_⟩
  · intro k q hq
    match k, hq with
    | 0, hq => cases hq; exact k0
    | 1, hq => cases hq; exact k1
    | 2, hq => cases hq; exact k3
    | 3, hq => cases hq; exact k4
    | k + 4, hq => simp [vwCl] at hq
  · intro k q hq
    match k, hq with
    | 0, hq => cases hq; exact ⟨fun n z => ⟨fun _ h => (by cases h), e0, g0, o0, d0⟩, f0⟩
    | 1, hq => cases hq; exact ⟨fun n z => ⟨fun _ h => (by cases h), e1, g1, o1, d1⟩, f1⟩
    | 2, hq => cases hq; exact ⟨fun n z => ⟨fun _ h => (by cases h), e2, g2, o2, d2⟩, f2⟩
    | 3, hq => cases hq; exact ⟨fun n z => ⟨fun _ h => (by cases h), e2, g2, o2, d2⟩, f2⟩
    | 4, hq => cases hq; exact ⟨fun n z => ⟨fun _ h => (by cases h), e4, h3, o4, h4⟩, e4, o4, h3, h4, h1, h5⟩
    | k + 5, hq => simp [q_ty] at hq
set_option maxHeartbeats 4000000 in
set_option maxRecDepth 20000 in
theorem q_stat {s : State} {b : Nat} (hts0 : ∀ w ∈ lw_tbl, w.before #[Value.ref b] s = true) (hgv : (Jvm.Cond.and given_1 narrow_1).before #[Value.ref b] s = true) : q_ST (fun q : Nat => s.heap.size ≤ q) s := by
  have hs := flat_of_before _ hgv
  have hA : ∀ a : Nat, a < s.heap.size → ¬ (fun q : Nat => s.heap.size ≤ q) a := fun a h => Nat.not_le.mpr h
  obtain ⟨t, t1, t2⟩ := va_Tof (A := fun q : Nat => s.heap.size ≤ q) (tm := .static "PubQuizzes" "LEAST" "[I") (ty := .int) (N := 4) (f := fun j => .int (leaS j)) (by decide) (hs (.arrayOf (.static "PubQuizzes" "LEAST" "[I") .int) (by decide +kernel)) (va_eqt (z := 4) (hs (.eq (.length (.static "PubQuizzes" "LEAST" "[I")) (.int 4)) (by decide +kernel))) (fun j hj => by
    rcases (show j = 0 ∨ j = 1 ∨ j = 2 ∨ j = 3 by omega) with rfl | rfl | rfl | rfl
    · exact va_eqt (z := 1) (hs (.eq (.elem (.static "PubQuizzes" "LEAST" "[I") (.int 0)) (.int 1)) (by decide +kernel))
    · exact va_eqt (z := 0) (hs (.eq (.elem (.static "PubQuizzes" "LEAST" "[I") (.int 1)) (.int 0)) (by decide +kernel))
    · exact va_eqt (z := 0) (hs (.eq (.elem (.static "PubQuizzes" "LEAST" "[I") (.int 2)) (.int 0)) (by decide +kernel))
    · exact va_eqt (z := 0) (hs (.eq (.elem (.static "PubQuizzes" "LEAST" "[I") (.int 3)) (.int 0)) (by decide +kernel))) hA
  obtain ⟨u, u1, u2⟩ := va_Tof (A := fun q : Nat => s.heap.size ≤ q) (tm := .static "PubQuizzes" "GREATEST" "[I") (ty := .int) (N := 4) (f := fun j => .int (graS j)) (by decide) (hs (.arrayOf (.static "PubQuizzes" "GREATEST" "[I") .int) (by decide +kernel)) (va_eqt (z := 4) (hs (.eq (.length (.static "PubQuizzes" "GREATEST" "[I")) (.int 4)) (by decide +kernel))) (fun j hj => by
    rcases (show j = 0 ∨ j = 1 ∨ j = 2 ∨ j = 3 by omega) with rfl | rfl | rfl | rfl
    · exact va_eqt (z := 100) (hs (.eq (.elem (.static "PubQuizzes" "GREATEST" "[I") (.int 0)) (.int 100)) (by decide +kernel))
    · exact va_eqt (z := 50) (hs (.eq (.elem (.static "PubQuizzes" "GREATEST" "[I") (.int 1)) (.int 50)) (by decide +kernel))
    · exact va_eqt (z := 2) (hs (.eq (.elem (.static "PubQuizzes" "GREATEST" "[I") (.int 2)) (.int 2)) (by decide +kernel))
    · exact va_eqt (z := 9) (hs (.eq (.elem (.static "PubQuizzes" "GREATEST" "[I") (.int 3)) (.int 9)) (by decide +kernel))) hA
  exact ⟨t, u, va_Zref (hts0 (.laysStatic "PubQuizzes" "LEAST" "[I") (by decide +kernel)) (hts0 (.initialized "PubQuizzes") (by decide +kernel)) t1 hA, t2, va_Zref (hts0 (.laysStatic "PubQuizzes" "GREATEST" "[I") (by decide +kernel)) (hts0 (.initialized "PubQuizzes") (by decide +kernel)) u1 hA, u2⟩
set_option maxHeartbeats 4000000 in
set_option maxRecDepth 100000 in
/-- THE LAW, from its entry -/
theorem whole_start {p : Program} {e : Env} {s : State} {m : MethodId} {below : List Frame} {meth : Method} {c : Code} (l : Launch) (hflags : l.flags = flags0) {b L : Nat} {xs : Nat → Int32} (hL : L ≤ 260) (C0 : lw_At p s m meth c b L xs) : W p l e room_1 s m #[Value.ref b] below meth c s.heap [] 0 0 (lw_Z below #[Value.ref b] s) (entryFrame m ([Value.ref b] : List Value).toArray 5) := by
  obtain ⟨hx, hb, hr, hml, hown, hts0, hX, hbl, hlk, hgv⟩ := id C0
  have hown : s.vm.findClass RL = some m.cls := hown
  have hts : ∀ w ∈ wsL_law, w.before #[Value.ref b] s = true := fun w h => hts0 w (wsL_law_in w h)
  obtain ⟨g, hK⟩ := q_start hts0
  have hN : q_NW s := va_Nw.of rfl (hts0 (.methodLinkNest RX3 69 yX4_indexOf RX4) (by decide +kernel))
  have hNP : q_NP s := va_Nw.of rfl (hts0 (.methodLinkNest RX4 25 yX1_init RX4) (by decide +kernel))
  have hO : va_AO "PubQuizzes$State" s := va_AO.of (hts0 (.arrayOver (.object RX3)) (by decide +kernel))
  have hT := q_stat hts0 hgv
  have hA : ∀ q : Nat, s.heap.size ≤ q → (fun q : Nat => s.heap.size ≤ q) q := fun _ h => h
  have hS : va_S (fun q : Nat => s.heap.size ≤ q) s.heap s.heap [] := va_S.rf
  have hP : va_P g.1 vwCl [] s.heap := fun k q h => by simp at h
  have hD : va_D (fun q : Nat => s.heap.size ≤ q) [] := ⟨fun i j p q h => by simp at h, fun k q h => by simp at h⟩
  have hl := lv_entry ([.ref b]) (n := 5) (Nat.le_of_ble_eq_true rfl)
  rw [lg_entry_eq]
  generalize (lg_sl ([.ref b]) ++ List.replicate (5 - (lg_sl ([.ref b])).length) Slot.unset).toArray = ls at hl ⊢
  have hl : lv_has ls 5 [(0, .ref b)] := hl
  refine va_new (ci := 3) (fs := [.null, .null, .null, .null, .null]) (C := RX4) (T := TX4) (N := 5) hx hb hts0 inX4 tyX4 tyX4_ok hown (hts (.classLink RL 10 RX4) (by decide +kernel)) (hts (.instantiable RX4 5) (by decide +kernel)) (hts (.initialized RX4) (by decide +kernel)) hK hP hD hS hA rfl (fun j hj => by rcases (show j = 0 ∨ j = 1 ∨ j = 2 ∨ j = 3 ∨ j = 4 by omega) with rfl | rfl | rfl | rfl | rfl <;> rfl) (Nat.le_of_ble_eq_true rfl) (Nat.le_of_ble_eq_true rfl) dL_law_0 (fun q0 H hP hD hS => ?_)
  refine W.widen (k := 1) (n := 5) (Nat.le_of_ble_eq_true rfl) (Nat.le_of_ble_eq_true rfl) ?_
  refine lv_dup hx hb dL_law_3 rfl ?_
  refine q_newC (wr := []) (wc := [(q0, .inr (3, [.null, .null, .null, .null, .null]))]) (X := (Nat → Nat → Nat) × (Nat → Nat)) (pr := fun x => x.2 0 = q0) (w1 := fun x => q_pqW g x.1 x.2 q_V0) (va_runI (As := []) (rest := [.ref q0]) ⟨hx, hb, hml, hown, hts⟩ (c_X4_init l g q0 H.size) (cwI 0 hts gL_law_X4_init rfl rfl rfl (hts (.initialized RX4) (by decide +kernel)) (hts (.methodLink RL 100 yX4_init) (by decide +kernel)) (hts (.instanceMethod yX4_init) (by decide +kernel)) rfl (by decide +kernel) ⟨Nat.le_of_ble_eq_true rfl, Nat.le_of_ble_eq_true rfl⟩) ⟨fun a1 U f mk h => ⟨h.1, q_NB3_blind a1 U f mk h.2⟩, fun U hU hW => ⟨rfl, q_NB3_of hP hK hD hO hNP U hU hW⟩⟩ rfl rfl hl.1 rfl (lv_room (Nat.le_of_ble_eq_true rfl)) dL_law_4 ⟨Nat.le_of_ble_eq_true rfl, Nat.le_of_ble_eq_true rfl⟩) hP hD hS hA rfl rfl (fun x H1 locs1 hq hP1 hD1 hS1 => ?_)
  obtain ⟨a, bb⟩ := x
  have hq : bb 0 = q0 := hq
  subst hq
  have hP := hP1
  have hD := hD1
  have hS := hS1
  refine W.widen (k := 106) (n := 2908) (Nat.le_of_ble_eq_true rfl) (Nat.le_of_ble_eq_true rfl) ?_
  have hP : va_P g.1 vwCl (q_pqW g a bb q_V0) H1 := hP
  have hD : va_D (fun q : Nat => s.heap.size ≤ q) (q_pqW g a bb q_V0) := hD
  refine lv_astore_n (lv' := [(1, .ref (bb 0)), (0, .ref b)]) hx hb dL_law_7 rfl hl (by decide) rfl (fun ls hl => ?_)
  obtain ⟨hI, hAa⟩ := q_apart hD
  exact law_body hL hr hlk ⟨hx, hb, hml, hown, hts, hX, hbl, hK, hN, hT, hI, hAa⟩ hS hP hl
