def R_law : String := "PubQuizzesLaw"
def lw_P (b : Addr) (xs : List Int32) (args : Array Value) (s : State) : Prop := args = #[.ref b] ∧ s.IntsAt b xs ∧ xs.length ≤ 2560 ∧ (Jvm.Cond.and given_1 narrow_1).before args s = true
def lw_Q (_ : Array Value) (s : State) (o : Outcome) (t : State) : Prop := o = .returned (some (.int 1)) ∧ Framed s o t [] 600000 7302250
def lw_Z (below : List Frame) (a : Array Value) (s : State) : State → Prop := fun t => ∃ o, t.status = .running ∧ Ended t below o ∧ lw_Q a s o t
/-- the law's own end, with 1 on the stack, nothing written that was there before, its room as the claim has it -/
theorem lw_ret {p : Program} {l : Launch} {e : Env} {s : State} {m : MethodId} {below : List Frame} {meth : Method} {c : Code} {b : Nat} (hx : p.tables.exec = Jvm.exec) (hb : c.code = code) (hr : meth.sig.returnType = ret) (hlocks : meth.locks = false) {pc : Nat} {H : Heap} {ls : Array Slot} (hdg : decode code pc = .ok (.ireturn, 1)) : W p l e room_1 s m #[Value.ref b] below meth c H [] 600000 7302250 (lw_Z below #[Value.ref b] s) (F0 m pc ls [.int 1]) := by
  intro T hT X
  obtain ⟨fs, hret, hrun, hended, hW, hframe⟩ := X.leave (v := some (.int 1)) (hlocks := hlocks) (fun h => by rw [hr] at h; cases h)
  have hmeth' : T.vm.method? m = some meth := X.method'
  refine ⟨T.setFrames fs, ?_, .returned (some (.int 1)), hrun, hended, rfl, ⟨_, rfl⟩, hW, hframe⟩
  jvm_step X.here [X.here.top, hx, hb, hdg, hmeth', hr, ret, narrow_b1]
  (try refine ⟨rfl, ?_⟩); (try refine ⟨rfl, ?_⟩)
  first | (intro acts; rw [hret _ acts rfl rfl rfl]) | rw [hret _ _ rfl rfl rfl]
  exact Steps.refl _
/-- what holds at the law's entry: the machine, the code, the tables' words (any of lw_tbl by 'hts w (by decide +kernel)'), the script of L ints xs at the cell b, what the Statement gives of the start (any of its parts by flat_of_before) -/
def lw_At (p : Program) (s : State) (m : MethodId) (meth : Method) (c : Code) (b L : Nat) (xs : Nat → Int32) : Prop :=
  p.tables.exec = Jvm.exec ∧ c.code = code ∧ meth.sig.returnType = ret ∧ c.maxLocals = 4 ∧ s.vm.findClass R_law = some m.cls ∧ (∀ w ∈ lw_tbl, w.before #[Value.ref b] s = true) ∧ va_X b L xs s s.heap ∧ b < s.heap.size ∧ meth.locks = false ∧ (Jvm.Cond.and given_1 narrow_1).before #[Value.ref b] s = true
/-! rows for the law's calls -/
theorem q_mdK {g : q_G} {D : va_G} {cl : List vw_C} {a : Nat → Nat → Nat} {b d : Nat → Nat} {M : q_MV} {H H1 : Heap} (hM : va_P D cl (q_mdW g d M) H) (hF : ∀ q : Nat, q < H.size → ¬ q_adr a b q → H1[q]? = H[q]?) (hx : ∀ q, q_adr a b q → ¬ q_mAd d q) : va_P D cl (q_mdW g d M) H1 :=
  hM.kept fun k q hq => hF q.1 (va_at.lt (hM k q hq)) fun z => hx q.1 z ⟨k, (q_md_at hq).1, (q_md_at hq).2⟩
theorem q_pqK {g : q_G} {D : va_G} {cl : List vw_C} {a : Nat → Nat → Nat} {b d : Nat → Nat} {V : q_CV} {H H1 : Heap} (hP : va_P D cl (q_pqW g a b V) H) (hF : ∀ q : Nat, q < H.size → ¬ q_mAd d q → H1[q]? = H[q]?) (hx : ∀ q, q_adr a b q → ¬ q_mAd d q) : va_P D cl (q_pqW g a b V) H1 :=
  hP.kept fun k q hq => hF q.1 (va_at.lt (hP k q hq)) fun z => by
    refine hx q.1 ?_ z
    rcases q_pq_at hq with ⟨h1, h2⟩ | ⟨h1, h2, h3⟩
    · exact Or.inr ⟨k, h1, h2⟩
    · exact Or.inl ⟨(k - 7) / 11, (k - 7) % 11, by omega, by omega, h3⟩
def lw_C (p : Program) (s : State) (m : MethodId) (c : Code) (bs L : Nat) (xs : Nat → Int32) (g : q_G) (a : Nat → Nat → Nat) (b d : Nat → Nat) : Prop :=
  p.tables.exec = Jvm.exec ∧ c.code = code ∧ c.maxLocals = 4 ∧ s.vm.findClass RL = some m.cls ∧ (∀ w ∈ wsL_law, w.before #[Value.ref bs] s = true) ∧ va_X bs L xs s s.heap ∧ bs < s.heap.size ∧ va_K g.1 vwCl (q_ty g) s ∧ q_NW s ∧ q_ST (fun q : Nat => s.heap.size ≤ q) s ∧ q_inj a b ∧ q_mInj d ∧ (∀ q : Nat, q_adr a b q → s.heap.size ≤ q) ∧ (∀ q : Nat, q_mAd d q → s.heap.size ≤ q) ∧ (∀ q : Nat, q_adr a b q → ¬ q_mAd d q)
theorem law_F {i L : Nat} (hL : L ≤ 2560) (hi : i ≤ L) (c : ¬ nI L - 5 < nI i) : i + 5 ≤ L := by
  rw [Int32.lt_iff_toInt_lt, show nI L - 5 = nI L - nI 5 from rfl, pk_sub_toInt (by omega) (by decide), nI_toInt (by omega)] at c
  omega
/-- what the worlds' apartness tells of their addresses -/
theorem q_pq_ex {g : q_G} {a : Nat → Nat → Nat} {b : Nat → Nat} {V : q_CV} {k : Nat} (hk : k < 106) : ∃ x : Nat × va_E, (q_pqW g a b V)[k]? = some x :=
  ⟨_, List.getElem?_eq_some_iff.mpr ⟨show k < (q_pqW g a b V).length from hk, rfl⟩⟩
theorem q_pq_b {g : q_G} {a : Nat → Nat → Nat} {b : Nat → Nat} {V : q_CV} {k : Nat} (hk : k < 7) : ∃ e : va_E, (q_pqW g a b V)[k]? = some (b k, e) := by
  obtain ⟨x, hx⟩ := q_pq_ex (g := g) (a := a) (b := b) (V := V) (k := k) (by omega)
  rcases q_pq_at hx with ⟨h1, h2⟩ | ⟨h1, h2, h3⟩
  · exact ⟨x.2, by rw [← h2]; exact hx⟩
  · omega
theorem q_pq_a {g : q_G} {a : Nat → Nat → Nat} {b : Nat → Nat} {V : q_CV} {i k : Nat} (hi : i < 9) (hk : k < 11) : ∃ e : va_E, (q_pqW g a b V)[7 + 11 * i + k]? = some (a i k, e) := by
  obtain ⟨x, hx⟩ := q_pq_ex (g := g) (a := a) (b := b) (V := V) (k := 7 + 11 * i + k) (by omega)
  rcases q_pq_at hx with ⟨h1, h2⟩ | ⟨h1, h2, h3⟩
  · omega
  · rw [show (7 + 11 * i + k - 7) / 11 = i from by omega, show (7 + 11 * i + k - 7) % 11 = k from by omega] at h3
    exact ⟨x.2, by rw [← h3]; exact hx⟩
theorem q_md_d {g : q_G} {d : Nat → Nat} {M : q_MV} {k : Nat} (hk : k < 6) : ∃ e : va_E, (q_mdW g d M)[k]? = some (d k, e) := by
  have hl : k < (q_mdW g d M).length := hk
  have hx : (q_mdW g d M)[k]? = some (q_mdW g d M)[k] := List.getElem?_eq_some_iff.mpr ⟨hl, rfl⟩
  have h2 := (q_md_at hx).2
  exact ⟨(q_mdW g d M)[k].2, by rw [← h2]; exact hx⟩
theorem q_apart {g : q_G} {A : Nat → Prop} {a : Nat → Nat → Nat} {b d : Nat → Nat} {V : q_CV} {M : q_MV} (h : va_D A (q_pqW g a b V ++ q_mdW g d M)) : q_inj a b ∧ q_mInj d ∧ (∀ q : Nat, q_adr a b q → A q) ∧ (∀ q : Nat, q_mAd d q → A q) ∧ (∀ q : Nat, q_adr a b q → ¬ q_mAd d q) := by
  have h1 := q_D_l h
  have h2 := q_D_r h
  refine ⟨⟨?_, ?_, ?_⟩, ?_, ?_, ?_, ?_⟩
  · intro i k j l hi hk hj hl e
    obtain ⟨e1, g1⟩ := q_pq_a (g := g) (a := a) (b := b) (V := V) hi hk
    obtain ⟨e2, g2⟩ := q_pq_a (g := g) (a := a) (b := b) (V := V) hj hl
    have := h1.1 _ _ _ _ g1 g2 e
    omega
  · intro i k j hi hk hj e
    obtain ⟨e1, g1⟩ := q_pq_a (g := g) (a := a) (b := b) (V := V) hi hk
    obtain ⟨e2, g2⟩ := q_pq_b (g := g) (a := a) (b := b) (V := V) hj
    have := h1.1 _ _ _ _ g1 g2 e
    omega
  · intro i j hi hj e
    obtain ⟨e1, g1⟩ := q_pq_b (g := g) (a := a) (b := b) (V := V) hi
    obtain ⟨e2, g2⟩ := q_pq_b (g := g) (a := a) (b := b) (V := V) hj
    exact h1.1 _ _ _ _ g1 g2 e
  · intro i j hi hj e
    obtain ⟨e1, g1⟩ := q_md_d (g := g) (d := d) (M := M) hi
    obtain ⟨e2, g2⟩ := q_md_d (g := g) (d := d) (M := M) hj
    exact h2.1 _ _ _ _ g1 g2 e
  · rintro q (⟨i, k, hi, hk, rfl⟩ | ⟨j, hj, rfl⟩)
    · obtain ⟨e1, g1⟩ := q_pq_a (g := g) (a := a) (b := b) (V := V) hi hk
      exact h1.2 _ _ g1
    · obtain ⟨e1, g1⟩ := q_pq_b (g := g) (a := a) (b := b) (V := V) hj
      exact h1.2 _ _ g1
  · rintro q ⟨j, hj, rfl⟩
    obtain ⟨e1, g1⟩ := q_md_d (g := g) (d := d) (M := M) hj
    exact h2.2 _ _ g1
  · rintro q hq ⟨j, hj, rfl⟩
    obtain ⟨e2, g2⟩ := q_md_d (g := g) (d := d) (M := M) hj
    rcases hq with ⟨i, k, hi, hk, e⟩ | ⟨i, hi, e⟩
    · obtain ⟨e1, g1⟩ := q_pq_a (g := g) (a := a) (b := b) (V := V) hi hk
      exact q_D_x h g1 g2 e.symm
    · obtain ⟨e1, g1⟩ := q_pq_b (g := g) (a := a) (b := b) (V := V) hi
      exact q_D_x h g1 g2 e.symm
/-! the start: both worlds tell the same -/
theorem S0_has {t r : Nat} (ht : t < 10) (hr : r < 8) : hasS q_S0 t r = false := by
  show decide (¬ flL (fun _ => 0) (-1) 80 (t * 8 + r) = -1) = false
  rw [show flL (fun _ => 0) (-1) 80 (t * 8 + r) = -1 from if_pos (by omega)]
  exact decide_eq_false fun q => q rfl
theorem S0_tld {t r : Nat} (ht : t < 10) (hr : r < 8) : tldS q_S0 t r = false := by
  show decide (¬ flF (fun _ => 0) (-6) 80 (t * 8 + r) = -6) = false
  rw [show flF (fun _ => 0) (-6) 80 (t * 8 + r) = -6 from if_pos (by omega)]
  exact decide_eq_false fun q => q rfl
theorem i32_z0 (x : Int32) : (0 : Int32) &&& x = 0 := by
  first | (apply Int32.toBitVec_inj.mp; simp; done) | simp
theorem S0_lok (t r : Nat) : lokS q_S0 t r = false := by
  show decide (¬ ((0 : Int32) &&& ((1 : Int32) <<< (nI t &&& 31))) = 0) = false
  rw [i32_z0]
  exact decide_eq_false fun q => q rfl
theorem S0_op {r : Nat} (hr : r < 8) : isOp q_S0 r = true := decide_eq_true (if_pos hr)
theorem cp_S0 : q_cp q_S0 (m_s q_M0) := by
  have ne : ∀ k, 4 ≤ k → m_s q_M0 k = 0 := fun k hk => (up_ne (by omega)).trans ((up_ne (by omega)).trans (up_ne (by omega)))
  refine ⟨?_, ?_, ?_, ?_, ?_, ?_, ?_, ?_, ?_⟩
  · intro k hk
    rcases (show k = 0 ∨ k = 1 ∨ k = 2 ∨ k = 3 by omega) with rfl | rfl | rfl | rfl <;> rfl
  · rfl
  · rfl
  · exact fun h => absurd rfl h
  · rw [ne 7 (by omega)]
    first | decide | rfl
  · intro r hr
    rw [ne (8 + 11 * r) (by omega), S0_op hr]; rfl
  · intro r hr h
    rw [S0_op hr] at h; cases h
  · intro t ht
    rw [ne (96 + 4 * t) (by omega), ne (96 + 4 * t + 1) (by omega), ne (96 + 4 * t + 2) (by omega), ne (96 + 4 * t + 3) (by omega)]
    have e1 : s_jok q_S0 t = -6 := if_pos ht
    have e2 : s_gue q_S0 t = -6 := if_pos ht
    rw [e1, e2]
    exact ⟨rfl, rfl, rfl, rfl⟩
  · intro t r ht hr
    rw [ne (136 + 15 * (t * 8 + r)) (by omega), ne (136 + 15 * (t * 8 + r) + 1) (by omega), ne (136 + 15 * (t * 8 + r) + 4) (by omega), S0_has ht hr, S0_tld ht hr, S0_lok]
    exact ⟨rfl, rfl, fun h => (by cases h), rfl, fun h => (by cases h)⟩
theorem ok_S0 : q_ok 0 q_S0 := by
  refine ⟨?_, ?_, ?_, ?_, ?_, ?_, ?_, ?_, ?_, ?_, ?_, ?_, ?_⟩
  · exact Nat.zero_le 10
  · exact fun t _ => ⟨0, Nat.le_refl 0, rfl⟩
  · intro t r ht hr h
    rw [S0_tld ht hr] at h; cases h
  · intro t r ht hr h
    rw [S0_lok] at h; cases h
  · exact fun r _ => rfl
  · exact fun t ht => Or.inl (if_pos ht)
  · exact fun t ht => Or.inl (if_pos ht)
  · exact Or.inl rfl
  · exact ⟨0, by decide, rfl⟩
  · exact ⟨2, by decide, rfl⟩
  · intro r hr h
    rw [S0_op hr] at h; cases h
  · intro t r ht hr h
    rw [S0_has ht hr] at h; cases h
  · exact fun t _ ht r hr => S0_has ht hr
theorem rel_0 : q_rel 0 q_V0 q_M0 :=
  ⟨⟨cp_S0, ok_S0⟩, ⟨Nat.zero_le 80, rfl, fun k hk => absurd hk (Nat.not_lt_zero k)⟩, ⟨rfl, Nat.zero_le 6, Nat.lt_of_lt_of_le (Nat.zero_lt_succ 5) (Nat.le_refl 6), fun j hj => absurd hj (Nat.not_lt_zero j)⟩, fun i _ => ⟨rfl, fun z => absurd rfl z⟩⟩
