/-! worlds that grow: their parts, a call on the last part -/
theorem q_D_l {A : Nat → Prop} {w1 w2 : va_W} (h : va_D A (w1 ++ w2)) : va_D A w1 :=
  h.by (fun k => k) (fun k q hk => by
    have hl := (List.getElem?_eq_some_iff.mp hk).1
    rw [List.getElem?_append_left hl]; exact hk) (fun _ _ _ _ e => e)
theorem q_D_r {A : Nat → Prop} {w1 w2 : va_W} (h : va_D A (w1 ++ w2)) : va_D A w2 :=
  h.by (fun k => w1.length + k) (fun k q hk => by
    rw [List.getElem?_append_right (by omega), Nat.add_sub_cancel_left]; exact hk) (fun i j _ _ e => by omega)
theorem q_D_x {A : Nat → Prop} {w1 w2 : va_W} (h : va_D A (w1 ++ w2)) {i j : Nat} {p q : Nat × va_E} (h1 : w1[i]? = some p) (h2 : w2[j]? = some q) : p.1 ≠ q.1 := by
  intro e
  have l1 := (List.getElem?_eq_some_iff.mp h1).1
  have k1 : (w1 ++ w2)[i]? = some p := by rw [List.getElem?_append_left l1]; exact h1
  have k2 : (w1 ++ w2)[w1.length + j]? = some q := by rw [List.getElem?_append_right (by omega), Nat.add_sub_cancel_left]; exact h2
  have := h.1 _ _ p q k1 k2 e
  omega
theorem q_join {A0 : Nat → Prop} {D : va_G} {cl : List vw_C} {wr wc w1 : va_W} {H H1 : Heap} (hP : va_P D cl (wr ++ wc) H) (hD : va_D A0 (wr ++ wc)) (hk : ∀ q : Nat, q < H.size → ¬ va_A wc H.size q → H1[q]? = H[q]?) (hF : ∀ q, va_A wc H.size q → A0 q) (hP1 : va_P D cl w1 H1) (hD1 : va_D (va_A wc H.size) w1) : va_P D cl (wr ++ w1) H1 ∧ va_D A0 (wr ++ w1) := by
  have hPr := (q_P_app.mp hP).1
  have out : ∀ (k : Nat) (q : Nat × va_E), wr[k]? = some q → ¬ va_A wc H.size q.1 := by
    intro k q hq z
    rcases z with ⟨j, e, hj⟩ | z
    · exact q_D_x hD hq hj rfl
    · have := va_at.lt (hPr k q hq)
      omega
  refine ⟨q_P_app.mpr ⟨hPr.kept fun k q hq => hk q.1 (va_at.lt (hPr k q hq)) (out k q hq), hP1⟩, (q_D_l hD).app (hD1.weaken fun _ _ _ h => hF _ h) fun i j p q hp hq e => ?_⟩
  exact out i p hp (by rw [e]; exact hD1.2 j q hq)
theorem q_setJ {A : Nat → Prop} {D : va_G} {cl : List vw_C} {ws : va_W} {H H1 : Heap} {k q : Nat} {e0 e1 : va_E} (hP : va_P D cl ws H) (hD : va_D A ws) (hk : ws[k]? = some (q, e0)) (h1 : va_P D cl [(q, e1)] H1) (hF : ∀ x : Nat, x < H.size → ¬ x = q → H1[x]? = H[x]?) : va_P D cl (ws.set k (q, e1)) H1 ∧ va_D A (ws.set k (q, e1)) := by
  have hl := (List.getElem?_eq_some_iff.mp hk).1
  have key : ∀ (i : Nat) (p : Nat × va_E), (ws.set k (q, e1))[i]? = some p → (i = k ∧ p = (q, e1)) ∨ (¬ i = k ∧ ws[i]? = some p) := by
    intro i p hp
    by_cases c : i = k
    · subst c
      rw [List.getElem?_set_self hl] at hp
      cases hp
      exact Or.inl ⟨rfl, rfl⟩
    · rw [List.getElem?_set_ne (fun z => c z.symm)] at hp
      exact Or.inr ⟨c, hp⟩
  have adr : ∀ (i : Nat) (p : Nat × va_E), (ws.set k (q, e1))[i]? = some p → ∃ e, ws[i]? = some (p.1, e) := by
    intro i p hp
    rcases key i p hp with ⟨rfl, rfl⟩ | ⟨-, h⟩
    · exact ⟨e0, hk⟩
    · exact ⟨p.2, h⟩
  refine ⟨fun i p hp => ?_, fun i j p x hp hx e => ?_, fun i p hp => ?_⟩
  · rcases key i p hp with ⟨rfl, rfl⟩ | ⟨c, h⟩
    · exact h1 0 _ rfl
    · have hat := hP i p h
      refine hat.kept (hF p.1 (va_at.lt hat) fun z => ?_)
      exact c (hD.1 i k p (q, e0) h hk z)
  · obtain ⟨u, hu⟩ := adr i p hp
    obtain ⟨v, hv⟩ := adr j x hx
    exact hD.1 i j _ _ hu hv e
  · obtain ⟨u, hu⟩ := adr i p hp
    exact hD.2 i (p.1, u) hu
def q_NB (g : q_G) (W : va_W) (sz : Nat) (U : State) : Prop := U.heap.size = sz ∧ va_P g.1 vwCl W U.heap ∧ va_K g.1 vwCl (q_ty g) U ∧ va_D (fun _ => True) W
theorem q_NB_blind {g : q_G} {W : va_W} {sz : Nat} : q_Blind (q_NB g W sz) := fun a U f mk h => ⟨h.1, h.2.1, va_K.moved (u := U) (U := U.calling f mk a) (Vm.Alike.refl U.vm) h.2.2.1, h.2.2.2⟩
theorem q_NB_of {g : q_G} {A : Nat → Prop} {W : va_W} {H : Heap} {s : State} (hP : va_P g.1 vwCl W H) (hK : va_K g.1 vwCl (q_ty g) s) (hD : va_D A W) : ∀ U : State, U.heap = H → s.WarmedH U.vm → q_NB g W H.size U :=
  fun U hU hW => ⟨by rw [hU], by rw [hU]; exact hP, va_K.moved hW.alike hK, hD.weaken fun _ _ _ _ => trivial⟩
def q_B2 (g : q_G) (W : va_W) (U : State) : Prop := va_P g.1 vwCl W U.heap ∧ va_K g.1 vwCl (q_ty g) U
theorem q_B2_blind {g : q_G} {W : va_W} : q_Blind (q_B2 g W) := fun a U f mk h => ⟨h.1, va_K.moved (u := U) (U := U.calling f mk a) (Vm.Alike.refl U.vm) h.2⟩
theorem q_B2_of {g : q_G} {W : va_W} {H : Heap} {s : State} (hP : va_P g.1 vwCl W H) (hK : va_K g.1 vwCl (q_ty g) s) : ∀ U : State, U.heap = H → s.WarmedH U.vm → q_B2 g W U :=
  fun _ hU hW => ⟨by rw [hU]; exact hP, va_K.moved hW.alike hK⟩
/-- what a constructor leaves: a world of its own, told by x -/
abbrev q_NQ {X : Type} (g : q_G) (A : Nat → Prop) (pr : X → Prop) (w1 : X → va_W) : Array Value → State → Outcome → State → Prop := va_Qv (fun _ : Unit => True) (fun _ t => ∃ x : X, pr x ∧ va_P g.1 vwCl (w1 x) t.heap ∧ va_D A (w1 x)) A
section QN
variable {p : Program} {l : Launch} {e : Env} {R : Room} {s : State} {m : MethodId} {args : Array Value} {below : List Frame} {meth : Method} {c : Code} {H H0 : Heap} {locs : List Loc} {cells slots mc ms c2 s2 : Nat} {Q : State → Prop}
variable {rest st0 : List Value} {ls : Array Slot} {pc : Nat} {g : q_G} {A0 : Nat → Prop} {wr wc : va_W} {a : Array Value}
theorem q_newC {X : Type} {pr : X → Prop} {w1 : X → va_W} (hr : va_Run p l e R s m args below meth c H locs cells slots mc ms (F0 m pc ls st0) rest (q_NQ g (va_A wc H.size) pr w1 a) (va_A wc H.size)) (hP : va_P g.1 vwCl (wr ++ wc) H) (hD : va_D A0 (wr ++ wc)) (hS : va_S A0 H0 H locs) (hA : ∀ q : Nat, H0.size ≤ q → A0 q) (hc2 : cells + mc = c2) (hs2 : slots + ms = s2)
    (kk : ∀ (x : X) (H1 : Heap) (locs1 : List Loc), pr x → va_P g.1 vwCl (wr ++ w1 x) H1 → va_D A0 (wr ++ w1 x) → va_S A0 H0 H1 locs1 → W p l e R s m args below meth c H1 locs1 c2 s2 Q (F0 m (pc + 3) ls rest)) : W p l e R s m args below meth c H locs cells slots Q (F0 m pc ls st0) := by
  subst hc2; subst hs2
  have hF : ∀ q, va_A wc H.size q → A0 q := by
    rintro q (⟨k, e, h⟩ | h)
    · exact (q_D_r hD).2 k _ h
    · exact hA q (Nat.le_trans hS.1 h)
  refine va_callv hr hS (fun q _ h => hF q h) hF (fun u t H1 locs1 ht hvm _ hB hz hk hS => ?_)
  obtain ⟨x, hx, hP1, hD1⟩ := hB
  rw [ht] at hP1
  obtain ⟨h1, h2⟩ := q_join hP hD hk hF hP1 hD1
  exact kk x H1 locs1 hx h1 h2 hS
end QN
theorem q_cA0 {g : q_G} {D : va_G} {cl : List vw_C} {cA : ClassId} {s : State} (h : va_K D cl (q_ty g ++ [(cA, .int)]) s) : cA = g.2 0 := by
  have h1 : s.vm.findClass _ = some (g.2 0) := (h.2 0 _ rfl).2
  have h2 : s.vm.findClass _ = some cA := (h.2 5 _ rfl).2
  exact Option.some.inj (h2.symm.trans h1)
theorem q_cA1 {g : q_G} {D : va_G} {cl : List vw_C} {cA : ClassId} {s : State} (h : va_K D cl (q_ty g ++ [(cA, .long)]) s) : cA = g.2 1 := by
  have h1 : s.vm.findClass _ = some (g.2 1) := (h.2 1 _ rfl).2
  have h2 : s.vm.findClass _ = some cA := (h.2 5 _ rfl).2
  exact Option.some.inj (h2.symm.trans h1)
theorem q_cA2 {g : q_G} {D : va_G} {cl : List vw_C} {cA : ClassId} {s : State} (h : va_K D cl (q_ty g ++ [(cA, .boolean)]) s) : cA = g.2 2 := by
  have h1 : s.vm.findClass _ = some (g.2 2) := (h.2 2 _ rfl).2
  have h2 : s.vm.findClass _ = some cA := (h.2 5 _ rfl).2
  exact Option.some.inj (h2.symm.trans h1)
theorem q_cA4 {g : q_G} {D : va_G} {cl : List vw_C} {cA : ClassId} {s : State} (h : va_K D cl (q_ty g ++ [(cA, .object "PubQuizzes$State")]) s) : cA = g.2 4 := by
  obtain ⟨k1, c1, -, -, -, h1⟩ := (h.2 4 _ rfl).2
  obtain ⟨k2, c2, -, -, -, h2⟩ := (h.2 5 _ rfl).2
  exact Option.some.inj (h2.symm.trans h1)
def flF (f : Nat → Int32) (v : Int32) (i : Nat) : Nat → Int32 := fun k => if k < i then v else f k
def flL (f : Nat → Int64) (v : Int64) (i : Nat) : Nat → Int64 := fun k => if k < i then v else f k
theorem flF_0 (f : Nat → Int32) (v : Int32) : flF f v 0 = f := by
  funext k; unfold flF; rw [if_neg (by omega)]
theorem flF_s (f : Nat → Int32) (v : Int32) (i : Nat) : upd (flF f v i) i v = flF f v (i + 1) := by
  funext k
  unfold upd flF
  by_cases c : k = i
  · rw [if_pos c, if_pos (by omega)]
  · rw [if_neg c]
    by_cases d : k < i
    · rw [if_pos d, if_pos (by omega)]
    · rw [if_neg d, if_neg (by omega)]
theorem flL_0 (f : Nat → Int64) (v : Int64) : flL f v 0 = f := by
  funext k; unfold flL; rw [if_neg (by omega)]
theorem flL_s (f : Nat → Int64) (v : Int64) (i : Nat) : vp_updL (flL f v i) i v = flL f v (i + 1) := by
  funext k
  unfold vp_updL flL
  by_cases c : k = i
  · rw [if_pos c, if_pos (by omega)]
  · rw [if_neg c]
    by_cases d : k < i
    · rw [if_pos d, if_pos (by omega)]
    · rw [if_neg d, if_neg (by omega)]
theorem q_D1 {q : Nat} {e : va_E} : va_D (fun x => x = q) [(q, e)] := by
  refine ⟨fun i j p x hp hx _ => ?_, fun i p hp => ?_⟩
  · have h1 := (List.getElem?_eq_some_iff.mp hp).1
    have h2 := (List.getElem?_eq_some_iff.mp hx).1
    simp at h1 h2
    omega
  · match i, hp with
    | 0, hp => cases hp; rfl
    | k + 1, hp => simp at hp

set_option maxHeartbeats 2000000 in
set_option maxRecDepth 100000 in
theorem c_J7_fill_53178 (l : Launch) (g : q_G) (q n : Nat) (f : Nat → Int32) (hn : n < 2 ^ 30) (v : Int32) : Met l yJ7_fill_53178 wsJ7_fill_53178 { frames := 0, cells := 0, slots := 0, locals := 0 } (va_Pc [.ref q, .int v] (q_B2 g ([(q, .inl (g.2 0, n, .inl (f)))]))) (q_QM g (fun x => x = q) ([(q, .inl (g.2 0, n, .inl (flF f v n)))]) (none)) 0 0 (fun x => x = q) := by
  refine q_mm (cc := cJ7_fill_53178) (maxL := 4) (ret := none) (by decide) rfl (Nat.le_of_ble_eq_true rfl) ?_
  intro p e s m args below meth c ls hx hb hml hown hts hr hlk hnm hB hag hl
  obtain ⟨hP, hK⟩ := hB
  have hS : va_S (fun x => x = q) s.heap s.heap [] := va_S.rf
  have hP : va_P g.1 vwCl ([(q, .inl (g.2 0, n, .inl (f)))]) s.heap := hP
  have hD : va_D (fun x => x = q) ([(q, .inl (g.2 0, n, .inl (f)))]) := q_D1
  have hl : lv_has ls 4 [(0, .ref q), (1, .int v)] := hl
  refine lv_iconst (v := 0) hx hb dJ7_fill_53178_0 (by decide) ?_
  refine lv_istore_n (lv' := [(2, .int 0), (0, .ref q), (1, .int v)]) hx hb dJ7_fill_53178_1 rfl hl (by decide) rfl (fun ls hl => ?_)
  refine lv_aload_n hx hb dJ7_fill_53178_2 rfl (lv_at hl 1 rfl) ?_
  refine va_alen (v := nI n) hx hb hK hP 0 0 rfl rfl rfl dJ7_fill_53178_3 ?_
  refine lv_istore_n (lv' := [(3, .int (nI n)), (2, .int 0), (0, .ref q), (1, .int v)]) hx hb dJ7_fill_53178_4 rfl hl (by decide) rfl (fun ls hl => ?_)
  have L_5 : ∀ (fu i5 : Nat) (H : Heap) (locs : List Loc), va_P g.1 vwCl ([(q, .inl (g.2 0, n, .inl (flF f v i5)))]) H → va_S (fun x => x = q) s.heap H locs → i5 ≤ n → n < i5 + fu → ∀ ls : Array Slot, lv_has ls 4 [(3, .int (nI n)), (2, .int (nI i5)), (0, .ref q), (1, .int v)] → W p l e { frames := 0, cells := 0, slots := 0, locals := 0 } s m args below meth c H locs 0 0 (MQ below (q_QM g (fun x => x = q) ([(q, .inl (g.2 0, n, .inl (flF f v n)))]) (none)) args s 0 0 (fun x => x = q)) (F0 m 5 ls []) := by
    intro fu
    induction fu with
    | zero => intro i5 H locs hP hS hi_i5 hn_i5; exact absurd hn_i5 (by omega)
    | succ fu ih_i5 =>
      intro i5 H locs hP hS hi_i5 hn_i5 ls hl
      have hD : va_D (fun x => x = q) ([(q, .inl (g.2 0, n, .inl (flF f v i5)))]) := q_D1
      refine lv_iload_n hx hb dJ7_fill_53178_5 rfl (lv_at hl 1 rfl) ?_
      refine lv_iload_n hx hb dJ7_fill_53178_6 rfl (lv_at hl 0 rfl) ?_
      refine lv_icmp_ge (tgt := 20) hx hb dJ7_fill_53178_7 (by decide) (fun c_7 => ?_) (fun c_7 => ?_)
      · skip
        have e_7 : i5 = n := q_ge_T (by omega) hi_i5 c_7
        rw [e_7] at hP
        have hD : va_D (fun x => x = q) [(q, .inl (g.2 0, n, .inl (flF f v n)))] := q_D1
        exact q_mvret hx hb hr hlk dJ7_fill_53178_20 hP hS (rfl)
      · skip
        have lt_i5 : i5 < n := q_ge_F (by omega) hi_i5 c_7
        refine lv_aload_n hx hb dJ7_fill_53178_10 rfl (lv_at hl 2 rfl) ?_
        refine lv_iload_n hx hb dJ7_fill_53178_11 rfl (lv_at hl 1 rfl) ?_
        refine lv_iload_n hx hb dJ7_fill_53178_12 rfl (lv_at hl 3 rfl) ?_
        refine q_iast (j := i5) hx hb hK hP hD hS 0 0 rfl rfl (by omega) (by omega) dJ7_fill_53178_13 (fun H locs hP hS => ?_)
        have hP : va_P g.1 vwCl ([(q, .inl (g.2 0, n, .inl (upd (flF f v i5) i5 v)))]) H := hP
        have hD : va_D (fun x => x = q) ([(q, .inl (g.2 0, n, .inl (upd (flF f v i5) i5 v)))]) := q_D1
        refine lv_iinc (v := nI (i5 + 1)) (lv' := [(2, .int (nI (i5 + 1))), (3, .int (nI n)), (0, .ref q), (1, .int v)]) hx hb dJ7_fill_53178_14 hl (k := 1) rfl (nI_1 _) (by decide) rfl (fun ls hl => ?_)
        refine lv_goto (tgt := 5) hx hb dJ7_fill_53178_17 (by decide) ?_
        exact ih_i5 (i5 + 1) _ _ (by rw [← flF_s]; exact hP) hS lt_i5 (by omega) ls (lv_sub hl [1, 0, 2, 3] rfl)
  exact L_5 (n + 1) 0 _ _ (by rw [flF_0]; exact hP) hS (Nat.zero_le _) (by omega) ls (lv_sub hl [0, 1, 2, 3] rfl)

set_option maxHeartbeats 2000000 in
set_option maxRecDepth 100000 in
theorem c_J7_fill_d0a16 (l : Launch) (g : q_G) (q n : Nat) (f : Nat → Int64) (hn : n < 2 ^ 30) (v : Int64) : Met l yJ7_fill_d0a16 wsJ7_fill_d0a16 { frames := 0, cells := 0, slots := 0, locals := 0 } (va_Pc [.ref q, .long v] (q_B2 g ([(q, .inl (g.2 1, n, .inr (.inl (f))))]))) (q_QM g (fun x => x = q) ([(q, .inl (g.2 1, n, .inr (.inl (flL f v n))))]) (none)) 0 0 (fun x => x = q) := by
  refine q_mm (cc := cJ7_fill_d0a16) (maxL := 5) (ret := none) (by decide) rfl (Nat.le_of_ble_eq_true rfl) ?_
  intro p e s m args below meth c ls hx hb hml hown hts hr hlk hnm hB hag hl
  obtain ⟨hP, hK⟩ := hB
  have hS : va_S (fun x => x = q) s.heap s.heap [] := va_S.rf
  have hP : va_P g.1 vwCl ([(q, .inl (g.2 1, n, .inr (.inl (f))))]) s.heap := hP
  have hD : va_D (fun x => x = q) ([(q, .inl (g.2 1, n, .inr (.inl (f))))]) := q_D1
  have hl : lv_has ls 5 [(0, .ref q), (1, .long v)] := hl
  refine lv_iconst (v := 0) hx hb dJ7_fill_d0a16_0 (by decide) ?_
  refine lv_istore_n (lv' := [(3, .int 0), (0, .ref q), (1, .long v)]) hx hb dJ7_fill_d0a16_1 rfl hl (by decide) rfl (fun ls hl => ?_)
  refine lv_aload_n hx hb dJ7_fill_d0a16_2 rfl (lv_at hl 1 rfl) ?_
  refine va_alen (v := nI n) hx hb hK hP 0 1 rfl rfl rfl dJ7_fill_d0a16_3 ?_
  refine lv_istore (lv' := [(4, .int (nI n)), (3, .int 0), (0, .ref q), (1, .long v)]) hx hb dJ7_fill_d0a16_4 hl (by decide) rfl (fun ls hl => ?_)
  have L_6 : ∀ (fu i6 : Nat) (H : Heap) (locs : List Loc), va_P g.1 vwCl ([(q, .inl (g.2 1, n, .inr (.inl (flL f v i6))))]) H → va_S (fun x => x = q) s.heap H locs → i6 ≤ n → n < i6 + fu → ∀ ls : Array Slot, lv_has ls 5 [(4, .int (nI n)), (3, .int (nI i6)), (0, .ref q), (1, .long v)] → W p l e { frames := 0, cells := 0, slots := 0, locals := 0 } s m args below meth c H locs 0 0 (MQ below (q_QM g (fun x => x = q) ([(q, .inl (g.2 1, n, .inr (.inl (flL f v n))))]) (none)) args s 0 0 (fun x => x = q)) (F0 m 6 ls []) := by
    intro fu
    induction fu with
    | zero => intro i6 H locs hP hS hi_i6 hn_i6; exact absurd hn_i6 (by omega)
    | succ fu ih_i6 =>
      intro i6 H locs hP hS hi_i6 hn_i6 ls hl
      have hD : va_D (fun x => x = q) ([(q, .inl (g.2 1, n, .inr (.inl (flL f v i6))))]) := q_D1
      refine lv_iload_n hx hb dJ7_fill_d0a16_6 rfl (lv_at hl 1 rfl) ?_
      refine lv_iload hx hb dJ7_fill_d0a16_7 (lv_at hl 0 rfl) ?_
      refine lv_icmp_ge (tgt := 22) hx hb dJ7_fill_d0a16_9 (by decide) (fun c_9 => ?_) (fun c_9 => ?_)
      · skip
        have e_9 : i6 = n := q_ge_T (by omega) hi_i6 c_9
        rw [e_9] at hP
        have hD : va_D (fun x => x = q) [(q, .inl (g.2 1, n, .inr (.inl (flL f v n))))] := q_D1
        exact q_mvret hx hb hr hlk dJ7_fill_d0a16_22 hP hS (rfl)
      · skip
        have lt_i6 : i6 < n := q_ge_F (by omega) hi_i6 c_9
        refine lv_aload_n hx hb dJ7_fill_d0a16_12 rfl (lv_at hl 2 rfl) ?_
        refine lv_iload_n hx hb dJ7_fill_d0a16_13 rfl (lv_at hl 1 rfl) ?_
        refine lv_lload_n hx hb dJ7_fill_d0a16_14 rfl (lv_at hl 3 rfl) ?_
        refine q_last (j := i6) hx hb hK hP hD hS 0 1 rfl rfl (by omega) (by omega) dJ7_fill_d0a16_15 (fun H locs hP hS => ?_)
        have hP : va_P g.1 vwCl ([(q, .inl (g.2 1, n, .inr (.inl (vp_updL (flL f v i6) i6 v))))]) H := hP
        have hD : va_D (fun x => x = q) ([(q, .inl (g.2 1, n, .inr (.inl (vp_updL (flL f v i6) i6 v))))]) := q_D1
        refine lv_iinc (v := nI (i6 + 1)) (lv' := [(3, .int (nI (i6 + 1))), (4, .int (nI n)), (0, .ref q), (1, .long v)]) hx hb dJ7_fill_d0a16_16 hl (k := 1) rfl (nI_1 _) (by decide) rfl (fun ls hl => ?_)
        refine lv_goto (tgt := 6) hx hb dJ7_fill_d0a16_19 (by decide) ?_
        exact ih_i6 (i6 + 1) _ _ (by rw [← flL_s]; exact hP) hS lt_i6 (by omega) ls (lv_sub hl [1, 0, 2, 3] rfl)
  exact L_6 (n + 1) 0 _ _ (by rw [flL_0]; exact hP) hS (Nat.zero_le _) (by omega) ls (lv_sub hl [0, 1, 2, 3] rfl)
