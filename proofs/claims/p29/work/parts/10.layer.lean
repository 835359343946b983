/-! a thin layer over the kit: methods that only read ('q_PM'), their calls, their ends, indexes that are counts -/
abbrev q_G : Type := va_G × (Nat → ClassId)
def q_ty (g : q_G) : List (ClassId × FieldType) := [(g.2 0, .int), (g.2 1, .long), (g.2 2, .boolean), (g.2 3, .boolean), (g.2 4, .object "PubQuizzes$State")]
def bI (b : Bool) : Int32 := if b = true then 1 else 0
theorem bI_t : bI true = 1 := rfl
theorem bI_f : bI false = 0 := rfl
theorem bI_ne {b : Bool} (h : ¬ bI b = 0) : b = true := by cases b with | true => rfl | false => exact absurd rfl h
theorem bI_eq {b : Bool} (h : bI b = 0) : b = false := by cases b with | false => rfl | true => exact absurd h (by decide)
def q_NW (U : State) : Prop := va_Nw (.methodLinkNest RX3 69 yX4_indexOf RX4) U
def q_PM (l : Launch) (y : MethodName) (ws : List Cond) (rm : Room) (vs : List Value) (B : State → Prop) (r : Value) : Prop := Met l y ws rm (va_Pc vs B) (k2_QcV r) 0 0 (fun _ => False)
def q_Blind (B : State → Prop) : Prop := ∀ (a : Array Value) (U : State) (g : JFrame) (mk : MethodId), B U → B (U.calling g mk a)
theorem q_Blind_t : q_Blind (fun _ => True) := fun _ _ _ _ _ => trivial
theorem q_ge_T {i N : Nat} (hN : N < 2 ^ 31) (hi : i ≤ N) (h : nI N ≤ nI i) : i = N := Nat.le_antisymm hi ((nI_leI hN (by omega)).mp h)
theorem q_ge_F {i N : Nat} (hN : N < 2 ^ 31) (hi : i ≤ N) (h : ¬ nI N ≤ nI i) : i < N := by
  rcases Nat.lt_or_ge i N with q | q
  · exact q
  · exact absurd ((nI_leI hN (by omega)).mpr q) h
theorem q_B_of {g : q_G} {W : va_W} {H : Heap} {s : State} (hP : va_P g.1 vwCl W H) (hK : va_K g.1 vwCl (q_ty g) s) (hN : q_NW s) : ∀ U : State, U.heap = H → s.WarmedH U.vm → va_P g.1 vwCl W U.heap ∧ va_K g.1 vwCl (q_ty g) U ∧ q_NW U :=
  fun _ hU hW => ⟨by rw [hU]; exact hP, va_K.moved hW.alike hK, va_Nw.warmM hW hN⟩
/-- what a method that reads the world W is given -/
def q_B (g : q_G) (W : va_W) (U : State) : Prop := va_P g.1 vwCl W U.heap ∧ va_K g.1 vwCl (q_ty g) U ∧ q_NW U
theorem q_B_blind {g : q_G} {W : va_W} : q_Blind (q_B g W) := fun a U gg mk h => ⟨h.1, va_K.moved (u := U) (U := U.calling gg mk a) (Vm.Alike.refl U.vm) h.2.1, va_Nw.same rfl rfl h.2.2⟩
theorem q_pm {l : Launch} {y : MethodName} {ws ws' : List Cond} {rm : Room} {cc : ByteArray} {maxL : Nat} {ret : Option FieldType} {vs : List Value} {B : State → Prop} {r : Value} (hy : plainName y.cls = true) (hw : ws = Cond.code y cc maxL ret :: ws') (hn : (lg_sl vs).length ≤ maxL)
    (body : ∀ (p : Program) (e : Env) (s : State) (m : MethodId) (args : Array Value) (below : List Frame) (meth : Method) (c : Code) (ls : Array Slot), p.tables.exec = Jvm.exec → c.code = cc → c.maxLocals = maxL → s.vm.findClass y.cls = some m.cls → (∀ w ∈ ws, w.before args s = true) → meth.sig.returnType = ret → meth.locks = false → B s → lv_has ls maxL (lv_args 0 vs) → W p l e rm s m args below meth c s.heap [] 0 0 (MQ below (k2_QcV r) args s 0 0 (fun _ => False)) (F0 m 0 ls [])) : q_PM l y ws rm vs B r := by
  refine Met.ofW (cc := cc) (maxL := maxL) (ret := ret) hy hw ?_
  intro p e s m args below meth c s₁ X hml hv
  obtain ⟨rfl, hB⟩ := hv
  rw [lg_entry_eq]
  exact body p e s m _ below meth c _ X.exec X.bytes hml (findClass_of_methodNamed X.named) (atoms_spec (ws := ws) X.pre) X.returns X.notSynchronized hB (lv_entry vs hn)
section QL
variable {p : Program} {l : Launch} {e : Env} {R : Room} {s : State} {m : MethodId} {args : Array Value} {below : List Frame} {meth : Method} {c : Code} {H : Heap} {locs : List Loc} {cells slots : Nat} {Q : State → Prop}
variable {cc bytes : ByteArray} {nL maxL index n : Nat} {Ts ws ws' : List Cond} {own C : String} {y : MethodName} {ret : Option FieldType} {rm : Room} {b : Addr} {As rest st : List Value} {ls : Array Slot} {pc : Nat} {r : Value} {B : State → Prop}
theorem q_reI {x y : Int32} (h : x = y) (k : W p l e R s m args below meth c H locs cells slots Q (F0 m pc ls (.int y :: rest))) : W p l e R s m args below meth c H locs cells slots Q (F0 m pc ls (.int x :: rest)) := h ▸ k
theorem q_reL {x y : Int64} (h : x = y) (k : W p l e R s m args below meth c H locs cells slots Q (F0 m pc ls (.long y :: rest))) : W p l e R s m args below meth c H locs cells slots Q (F0 m pc ls (.long x :: rest)) := h ▸ k
theorem q_V (S : CallFix p m c cc nL s args Ts own) (hM : q_PM l y ws rm (.ref b :: As) B r) (cw : CallW R s args own C index y bytes maxL ret ws rm 0 0 n) (hbl : q_Blind B) (hrec : ∃ cell : Cell, H[b]? = some cell ∧ cell.vm.isStatics = false ∧ s.vm.findClass C = some cell.cls) (hB : ∀ U : State, U.heap = H → s.WarmedH U.vm → B U)
    (hn : As.length = n) (hsize : ls.size = nL) (hst : st = As.reverse ++ .ref b :: rest) (hW : (rest.map fun v => v.category).sum ≤ 8) (hdg : decode cc pc = .ok (.invokevirtual index, 3)) (hc : cells ≤ R.cells) (hs : slots ≤ R.slots)
    (kk : W p l e R s m args below meth c H locs cells slots Q (F0 m (pc + 3) ls (r :: rest))) : W p l e R s m args below meth c H locs cells slots Q (F0 m pc ls st) := by
  subst hst
  exact W.callV (W.runV S hM cw ⟨fun a U gg mk h => ⟨h.1, hbl a U gg mk h.2⟩, hrec, fun U h1 h2 => ⟨rfl, hB U h1 h2⟩⟩ rfl hn hsize rfl (lv_room (pc := pc) (ls := ls) (rest := As.reverse ++ .ref b :: rest) hW) hdg ⟨hc, hs⟩) kk
theorem q_S (S : CallFix p m c cc nL s args Ts own) (hM : q_PM l y ws rm As B r) (cw : CallB R s args own index y bytes maxL ret ws rm 0 0 n ∧ (Cond.static y).before args s = true) (hbl : q_Blind B) (hB : ∀ U : State, U.heap = H → s.WarmedH U.vm → B U)
    (hn : As.length = n) (hsize : ls.size = nL) (hst : st = As.reverse ++ rest) (hW : (rest.map fun v => v.category).sum ≤ 8) (hdg : decode cc pc = .ok (.invokestatic index, 3)) (hc : cells ≤ R.cells) (hs : slots ≤ R.slots)
    (kk : W p l e R s m args below meth c H locs cells slots Q (F0 m (pc + 3) ls (r :: rest))) : W p l e R s m args below meth c H locs cells slots Q (F0 m pc ls st) := by
  subst hst
  exact W.callV (W.runS S hM cw ⟨fun a U gg mk h => ⟨h.1, hbl a U gg mk h.2⟩, fun U h1 h2 => ⟨rfl, hB U h1 h2⟩⟩ rfl hn hsize rfl (lv_room (pc := pc) (ls := ls) (rest := As.reverse ++ rest) hW) hdg ⟨hc, hs⟩) kk
theorem q_SN {host : String} (S : CallFix p m c cc nL s args Ts own) (hM : q_PM l y ws rm As B r) (cw : va_CN R s args own index y host bytes maxL ret ws rm 0 0 n ∧ (Cond.static y).before args s = true ∧ True) (hbl : q_Blind B) (hB : ∀ U : State, U.heap = H → s.WarmedH U.vm → B U)
    (hn : As.length = n) (hsize : ls.size = nL) (hst : st = As.reverse ++ rest) (hW : (rest.map fun v => v.category).sum ≤ 8) (hdg : decode cc pc = .ok (.invokestatic index, 3)) (hc : cells ≤ R.cells) (hs : slots ≤ R.slots)
    (kk : W p l e R s m args below meth c H locs cells slots Q (F0 m (pc + 3) ls (r :: rest))) : W p l e R s m args below meth c H locs cells slots Q (F0 m pc ls st) := by
  subst hst
  exact W.callV (va_runSN S hM cw ⟨fun a U gg mk h => ⟨h.1, hbl a U gg mk h.2⟩, fun U h1 h2 => ⟨rfl, hB U h1 h2⟩⟩ rfl hn hsize rfl (lv_room (pc := pc) (ls := ls) (rest := As.reverse ++ rest) hW) hdg ⟨hc, hs⟩).run kk
theorem q_iret {v r : Int32} (hx : p.tables.exec = Jvm.exec) (hb : c.code = cc) (hr : meth.sig.returnType = some .int) (hlk : meth.locks = false) (hdg : decode cc pc = .ok (.ireturn, 1)) (hv : v = r) : W p l e R s m args below meth c s.heap [] 0 0 (MQ below (k2_QcV (.int r)) args s 0 0 (fun _ => False)) (F0 m pc ls [.int v]) := by
  subst hv
  exact W.iret hx hb hr (fun _ ht _ => ⟨rfl, ht⟩) (fun _ h => nomatch h) hdg hlk
theorem q_lret {v r : Int64} (hx : p.tables.exec = Jvm.exec) (hb : c.code = cc) (hr : meth.sig.returnType = some .long) (hlk : meth.locks = false) (hdg : decode cc pc = .ok (.lreturn, 1)) (hv : v = r) : W p l e R s m args below meth c s.heap [] 0 0 (MQ below (k2_QcV (.long r)) args s 0 0 (fun _ => False)) (F0 m pc ls [.long v]) := by
  subst hv
  exact W.lret hx hb hr (fun _ ht _ => ⟨rfl, ht⟩) (fun _ h => nomatch h) hdg hlk
theorem bI_nar (b : Bool) : narrow .boolean (.int (bI b)) = .int (bI b) := by cases b <;> rfl
theorem q_zret {v : Int32} {b : Bool} (hx : p.tables.exec = Jvm.exec) (hb : c.code = cc) (hr : meth.sig.returnType = some .boolean) (hlk : meth.locks = false) (hdg : decode cc pc = .ok (.ireturn, 1)) (hv : v = bI b) : W p l e R s m args below meth c s.heap [] 0 0 (MQ below (k2_QcV (.int (bI b))) args s 0 0 (fun _ => False)) (F0 m pc ls [.int v]) := by
  subst hv
  exact W.zret hx hb hr (bI_nar b) (fun _ ht _ => ⟨rfl, ht⟩) (fun _ h => nomatch h) hdg hlk
variable {a : Addr} {D : va_G} {cl : List vw_C} {tys : List (ClassId × FieldType)} {ws1 : va_W}
theorem q_ildj {f : Nat → Int32} {j : Nat} (hj : j < 2 ^ 31) (kk : W p l e R s m args below meth c H locs cells slots Q (F0 m pc ls (.int (f j) :: rest))) : W p l e R s m args below meth c H locs cells slots Q (F0 m pc ls (.int (f (nI j).toNatClampNeg) :: rest)) := by
  rw [nI_clamp hj]; exact kk
theorem q_iald (hx : p.tables.exec = Jvm.exec) (hb : c.code = cc) (hK : va_K D cl tys s) (hP : va_P D cl ws1 H) (q0 t0 : Nat) {cA : ClassId} {n : Nat} {f : Nat → Int32} (ha : ws1[q0]? = some (a, .inl (cA, n, .inl f))) (ht : tys[t0]? = some (cA, .int)) {j : Nat} (hj : j < n) (hn : n < 2 ^ 31) (hdg : decode cc pc = .ok (.iaload, 1))
    (kk : W p l e R s m args below meth c H locs cells slots Q (F0 m (pc + 1) ls (.int (f j) :: rest))) : W p l e R s m args below meth c H locs cells slots Q (F0 m pc ls (.int (nI j) :: .ref a :: rest)) :=
  va_iald hx hb hK hP q0 t0 ha ht (vp_in_nI hj hn) hdg (q_ildj (Nat.lt_trans hj hn) kk)
theorem q_cald (hx : p.tables.exec = Jvm.exec) (hb : c.code = cc) (hK : va_K D cl tys s) (hP : va_P D cl ws1 H) (q0 t0 : Nat) {cA : ClassId} {n : Nat} {f : Nat → Int32} (ha : ws1[q0]? = some (a, .inl (cA, n, .inl f))) (ht : tys[t0]? = some (cA, .char)) {j : Nat} (hj : j < n) (hn : n < 2 ^ 31) (hdg : decode cc pc = .ok (.caload, 1))
    (kk : W p l e R s m args below meth c H locs cells slots Q (F0 m (pc + 1) ls (.int (f j) :: rest))) : W p l e R s m args below meth c H locs cells slots Q (F0 m pc ls (.int (nI j) :: .ref a :: rest)) :=
  va_cald hx hb hK hP q0 t0 ha ht (vp_in_nI hj hn) hdg (q_ildj (Nat.lt_trans hj hn) kk)
theorem q_zald (hx : p.tables.exec = Jvm.exec) (hb : c.code = cc) (hK : va_K D cl tys s) (hP : va_P D cl ws1 H) (q0 t0 : Nat) {cA : ClassId} {n : Nat} {f : Nat → Int32} (ha : ws1[q0]? = some (a, .inl (cA, n, .inl f))) (ht : tys[t0]? = some (cA, .boolean)) {j : Nat} (hj : j < n) (hn : n < 2 ^ 31) (hdg : decode cc pc = .ok (.baload, 1))
    (kk : W p l e R s m args below meth c H locs cells slots Q (F0 m (pc + 1) ls (.int (f j) :: rest))) : W p l e R s m args below meth c H locs cells slots Q (F0 m pc ls (.int (nI j) :: .ref a :: rest)) :=
  va_zald hx hb hK hP q0 t0 ha ht (vp_in_nI hj hn) hdg (q_ildj (Nat.lt_trans hj hn) kk)
theorem q_lald (hx : p.tables.exec = Jvm.exec) (hb : c.code = cc) (hK : va_K D cl tys s) (hP : va_P D cl ws1 H) (q0 t0 : Nat) {cA : ClassId} {n : Nat} {f : Nat → Int64} (ha : ws1[q0]? = some (a, .inl (cA, n, .inr (.inl f)))) (ht : tys[t0]? = some (cA, .long)) {j : Nat} (hj : j < n) (hn : n < 2 ^ 31) (hdg : decode cc pc = .ok (.laload, 1))
    (kk : W p l e R s m args below meth c H locs cells slots Q (F0 m (pc + 1) ls (.long (f j) :: rest))) : W p l e R s m args below meth c H locs cells slots Q (F0 m pc ls (.int (nI j) :: .ref a :: rest)) := by
  refine va_lald hx hb hK hP q0 t0 ha ht (vp_in_nI hj hn) hdg ?_
  rw [nI_clamp (Nat.lt_trans hj hn)]; exact kk
end QL
/-! sums, sets and counts over the first numbers -/
def q_acc (a : Int32) (f : Nat → Int32) : Nat → Int32
  | 0 => a
  | n + 1 => q_acc a f n + f n
def q_or (f : Nat → Bool) : Nat → Int32
  | 0 => 0
  | n + 1 => q_or f n ||| (if f n = true then (1 : Int32) <<< (nI n &&& 31) else 0)
def q_cnt (f : Nat → Bool) : Nat → Nat
  | 0 => 0
  | n + 1 => q_cnt f n + (if f n = true then 1 else 0)
def q_any (f : Nat → Bool) : Nat → Bool
  | 0 => false
  | n + 1 => q_any f n || f n
theorem q_cmp_e {x y : Int64} (h : lg_cmp x y = 0) : x = y := by
  unfold lg_cmp at h
  split at h
  · exact absurd h (by decide)
  · split at h
    · assumption
    · exact absurd h (by decide)
theorem q_cmp_n {x y : Int64} (h : ¬ lg_cmp x y = 0) : ¬ x = y := by
  intro e
  subst e
  refine h ?_
  unfold lg_cmp
  rw [if_neg (Int64.lt_irrefl), if_pos rfl]
theorem q_out {x : Int32} {lo hi : Int} (h : lo ≤ x.toInt → x.toInt ≤ hi → False) : x.toInt < lo ∨ hi < x.toInt := by
  by_cases h1 : x.toInt < lo
  · exact Or.inl h1
  · by_cases h2 : hi < x.toInt
    · exact Or.inr h2
    · exact (h (by omega) (by omega)).elim
theorem q_tab {x : Int32} {n lo : Nat} (hn : lo + n < 2 ^ 31) (h : ∀ k, k < n → ¬ x = nI (k + lo)) : x.toInt < lo ∨ (lo : Int) + n ≤ x.toInt := by
  by_cases h1 : x.toInt < lo
  · exact Or.inl h1
  · refine Or.inr (Int.not_lt.mp fun h2 => h (x.toInt.toNat - lo) (by omega) ?_)
    refine Int32.toInt_inj.mp ?_
    rw [nI_toInt (by omega)]
    omega
theorem q_any_t {f : Nat → Bool} : ∀ {N i : Nat}, i < N → f i = true → q_any f N = true
  | 0, i, h, _ => absurd h (Nat.not_lt_zero i)
  | N + 1, i, h, hf => by
    rcases Nat.lt_or_ge i N with c | c
    · show (q_any f N || f N) = true
      rw [q_any_t c hf]; rfl
    · have e : i = N := by omega
      subst e
      show (q_any f i || f i) = true
      rw [hf]; exact Bool.or_true _
