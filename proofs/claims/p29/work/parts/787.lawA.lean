def R_law : String := "PubQuizzesLaw"
def lw_P (b : Addr) (xs : List Int32) (args : Array Value) (s : State) : Prop := args = #[.ref b] ∧ s.IntsAt b xs ∧ xs.length ≤ 260 ∧ (Jvm.Cond.and given_1 narrow_1).before args s = true
def lw_Q (_ : Array Value) (s : State) (o : Outcome) (t : State) : Prop := o = .returned (some (.int 1)) ∧ Framed s o t [] 600000 7302250
def lw_Z (below : List Frame) (a : Array Value) (s : State) : State → Prop := fun t => ∃ o, t.status = .running ∧ Ended t below o ∧ lw_Q a s o t
/-- the law's own end, with 1 on the stack, nothing written that was there before, its room as the claim has it -/
theorem lw_ret {p : Program} {l : Launch} {e : Env} {s : State} {m : MethodId} {below : List Frame} {meth : Method} {c : Code} {b : Nat} (hx : p.tables.exec = Jvm.exec) (hb : c.code = code) (hr : meth.sig.returnType = ret) (hlocks : meth.locks = false) {pc : Nat} {H : Heap} {ls : Array Slot} (hdg : decode code pc = .ok (.ireturn, 1)) : W p l e room_1 s m #[Value.ref b] below meth c H [] 600000 7302250 (lw_Z below #[Value.ref b] s) (F0 m pc ls [.int 1]) := by
  intro T hT X
  obtain ⟨fs, hret, hrun, hended, hW, hframe⟩ := X.leave (v := some (.int 1)) (hlocks := hlocks) (fun h => by rw [hr] at h; cases h)
  have hmeth' : T.vm.method? m = some meth := X.method'
  refine ⟨T.setFrames fs, ?_, .returned (some (.int 1)), hrun, hended, rfl, ⟨_, rfl⟩, hW, hframe⟩
  jvm_step X.here [X.here.top, hx, hb, hdg, hmeth', hr, ret, narrow_b1]
  (try refine ⟨rfl, ?_⟩); (try refine ⟨rfl, ?_⟩)
  first | (intro acts; rw [hret _ acts rfl rfl rfl]) | rw [hret _ _ rfl rfl rfl]
  exact Steps.refl _
/-- what holds at the law's entry: the machine, the code, the tables' words (any of lw_tbl by 'hts w (by decide +kernel)'), the script of L ints xs at the cell b, what the Statement gives of the start (any of its parts by flat_of_before) -/
def lw_At (p : Program) (s : State) (m : MethodId) (meth : Method) (c : Code) (b L : Nat) (xs : Nat → Int32) : Prop :=
  p.tables.exec = Jvm.exec ∧ c.code = code ∧ meth.sig.returnType = ret ∧ c.maxLocals = 5 ∧ s.vm.findClass R_law = some m.cls ∧ (∀ w ∈ lw_tbl, w.before #[Value.ref b] s = true) ∧ va_X b L xs s s.heap ∧ b < s.heap.size ∧ meth.locks = false ∧ (Jvm.Cond.and given_1 narrow_1).before #[Value.ref b] s = true
/-! rows for the law's calls -/
def lw_C (p : Program) (s : State) (m : MethodId) (c : Code) (bs L : Nat) (xs : Nat → Int32) (g : q_G) (a : Nat → Nat → Nat) (b : Nat → Nat) : Prop :=
  p.tables.exec = Jvm.exec ∧ c.code = code ∧ c.maxLocals = 5 ∧ s.vm.findClass RL = some m.cls ∧ (∀ w ∈ wsL_law, w.before #[Value.ref bs] s = true) ∧ va_X bs L xs s s.heap ∧ bs < s.heap.size ∧ va_K g.1 vwCl (q_ty g) s ∧ q_NW s ∧ q_ST (fun q : Nat => s.heap.size ≤ q) s ∧ q_inj a b ∧ (∀ q : Nat, q_adr a b q → s.heap.size ≤ q)
/-- what the worlds' apartness tells of their addresses -/
theorem q_pq_ex {g : q_G} {a : Nat → Nat → Nat} {b : Nat → Nat} {V : q_CV} {k : Nat} (hk : k < 106) : ∃ x : Nat × va_E, (q_pqW g a b V)[k]? = some x :=
  ⟨_, List.getElem?_eq_some_iff.mpr ⟨show k < (q_pqW g a b V).length from hk, rfl⟩⟩
theorem q_pq_b {g : q_G} {a : Nat → Nat → Nat} {b : Nat → Nat} {V : q_CV} {k : Nat} (hk : k < 7) : ∃ e : va_E, (q_pqW g a b V)[k]? = some (b k, e) := by
  obtain ⟨x, hx⟩ := q_pq_ex (g := g) (a := a) (b := b) (V := V) (k := k) (by omega)
  rcases q_pq_at hx with ⟨h1, h2⟩ | ⟨h1, h2, h3⟩
  · exact ⟨x.2, by rw [← h2]; exact hx⟩
  · omega
theorem q_pq_a {g : q_G} {a : Nat → Nat → Nat} {b : Nat → Nat} {V : q_CV} {i k : Nat} (hi : i < 9) (hk : k < 11) : ∃ e : va_E, (q_pqW g a b V)[7 + 11 * i + k]? = some (a i k, e) := by
  obtain ⟨x, hx⟩ := q_pq_ex (g := g) (a := a) (b := b) (V := V) (k := 7 + 11 * i + k) (by omega)
  rcases q_pq_at hx with ⟨h1, h2⟩ | ⟨h1, h2, h3⟩
  · omega
  · rw [show (7 + 11 * i + k - 7) / 11 = i from by omega, show (7 + 11 * i + k - 7) % 11 = k from by omega] at h3
    exact ⟨x.2, by rw [← h3]; exact hx⟩
theorem q_apart {g : q_G} {A : Nat → Prop} {a : Nat → Nat → Nat} {b : Nat → Nat} {V : q_CV} (h1 : va_D A (q_pqW g a b V)) : q_inj a b ∧ (∀ q : Nat, q_adr a b q → A q) := by
  refine ⟨⟨?_, ?_, ?_⟩, ?_⟩
  · intro i k j l hi hk hj hl e
    obtain ⟨e1, g1⟩ := q_pq_a (g := g) (a := a) (b := b) (V := V) hi hk
    obtain ⟨e2, g2⟩ := q_pq_a (g := g) (a := a) (b := b) (V := V) hj hl
    have := h1.1 _ _ _ _ g1 g2 e
    omega
  · intro i k j hi hk hj e
    obtain ⟨e1, g1⟩ := q_pq_a (g := g) (a := a) (b := b) (V := V) hi hk
    obtain ⟨e2, g2⟩ := q_pq_b (g := g) (a := a) (b := b) (V := V) hj
    have := h1.1 _ _ _ _ g1 g2 e
    omega
  · intro i j hi hj e
    obtain ⟨e1, g1⟩ := q_pq_b (g := g) (a := a) (b := b) (V := V) hi
    obtain ⟨e2, g2⟩ := q_pq_b (g := g) (a := a) (b := b) (V := V) hj
    exact h1.1 _ _ _ _ g1 g2 e
  · rintro q (⟨i, k, hi, hk, rfl⟩ | ⟨j, hj, rfl⟩)
    · obtain ⟨e1, g1⟩ := q_pq_a (g := g) (a := a) (b := b) (V := V) hi hk
      exact h1.2 _ _ g1
    · obtain ⟨e1, g1⟩ := q_pq_b (g := g) (a := a) (b := b) (V := V) hj
      exact h1.2 _ _ g1
