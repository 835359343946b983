/-! a cell of the script -/
def celI (L : Nat) (xs : Nat → Int32) (k : Nat) : Int32 := (if k < L then xs k else 15485959 * nI k + 8255) &&& 2147483647
def celN (L : Nat) (xs : Nat → Int32) (k : Nat) : Nat := (if k < L then xs k else 15485959 * nI k + 8255).toBitVec.toNat % 2 ^ 31
theorem cel_lt (L : Nat) (xs : Nat → Int32) (k : Nat) : celN L xs k < 2 ^ 31 := Nat.mod_lt _ (by decide)
theorem cel_e (L : Nat) (xs : Nat → Int32) (k : Nat) : celI L xs k = nI (celN L xs k) := pk_and _ 31 (by decide)
def q_XB (bs L : Nat) (xs : Nat → Int32) (U : State) : Prop := va_X bs L xs U U.heap
theorem q_XB_blind {bs L : Nat} {xs : Nat → Int32} : q_Blind (q_XB bs L xs) := fun a U g mk h => va_X.moved (u := U) (U := U.calling g mk a) (Vm.Alike.refl U.vm) h
theorem q_XB_of {bs L : Nat} {xs : Nat → Int32} {A : Nat → Prop} {s : State} {H : Heap} {locs : List Loc} (hX : va_X bs L xs s s.heap) (hbl : bs < s.heap.size) (hbA : ¬ A bs) (hS : va_S A s.heap H locs) : ∀ U : State, U.heap = H → s.WarmedH U.vm → q_XB bs L xs U := by
  intro U hU hW
  subst hU
  exact va_X.moved hW.alike (hX.kept (hS.2.1 bs hbl hbA))
set_option maxHeartbeats 4000000 in
set_option maxRecDepth 100000 in
theorem c_L_cell (l : Launch) (bs L : Nat) (xs : Nat → Int32) (k : Nat) (hL : L ≤ 260) (hk : k < 46) : q_PM l yL_cell wsL_cell { frames := 0, cells := 0, slots := 0, locals := 0 } [.ref bs, .int (nI k)] (q_XB bs L xs) (.int (nI (celN L xs k))) := by
  refine q_pm (cc := cL_cell) (maxL := 2) (ret := (some .int)) (by decide) rfl (Nat.le_of_ble_eq_true rfl) ?_
  intro p e s m args below meth c ls hx hb hml hown hts hr hlk hB hl
  have hX : va_X bs L xs s s.heap := hB
  have hbl : bs < s.heap.size := by
    obtain ⟨scr, h1, -⟩ := hX
    exact (Array.getElem?_eq_some_iff.mp h1).1
  have hbA : ¬ (fun _ : Nat => False) bs := fun q => q
  have hS : va_S (fun _ : Nat => False) s.heap s.heap [] := va_S.rf
  have hl : lv_has ls 2 [(0, .ref bs), (1, .int (nI k))] := hl
  refine lv_iload_n hx hb dL_cell_0 rfl (lv_at hl 1 rfl) ?_
  refine lv_aload_n hx hb dL_cell_1 rfl (lv_at hl 0 rfl) ?_
  refine va_slen hx hb hX hbl hbA hS dL_cell_2 ?_
  refine lv_icmp_ge (tgt := 12) hx hb dL_cell_3 (by decide) (fun c_3 => ?_) (fun c_3 => ?_)
  · have h3 : ¬ k < L := fun q => nI_ge q (by omega) c_3
    refine lv_ldc (v := 15485959) hx hb hown (hts (.constant RL 7 (15485959)) (by decide +kernel)) dL_cell_12 ?_
    refine lv_iload_n hx hb dL_cell_14 rfl (lv_at hl 1 rfl) ?_
    refine lv_imul hx hb dL_cell_15 ?_
    refine lv_sipush (v := 8255) hx hb dL_cell_16 (by decide) ?_
    refine lv_iadd hx hb dL_cell_19 ?_
    refine lv_ldc (v := 2147483647) hx hb hown (hts (.constant RL 8 (2147483647)) (by decide +kernel)) dL_cell_20 ?_
    refine lv_iand hx hb dL_cell_22 ?_
    exact q_iret hx hb hr hlk dL_cell_23 (by rw [← cel_e]; unfold celI; rw [if_neg h3])
  · have h3 : k < L := Nat.not_le.mp fun q => c_3 (nI_le q (by omega))
    refine lv_aload_n hx hb dL_cell_6 rfl (lv_at hl 0 rfl) ?_
    refine lv_iload_n hx hb dL_cell_7 rfl (lv_at hl 1 rfl) ?_
    refine va_sld hx hb hX hbl hbA hS (vp_in_nI h3 (by omega)) dL_cell_8 ?_
    refine q_ildj (f := xs) (by omega) ?_
    refine lv_goto (tgt := 20) hx hb dL_cell_9 (by decide) ?_
    refine lv_ldc (v := 2147483647) hx hb hown (hts (.constant RL 8 (2147483647)) (by decide +kernel)) dL_cell_20 ?_
    refine lv_iand hx hb dL_cell_22 ?_
    exact q_iret hx hb hr hlk dL_cell_23 (by rw [← cel_e]; unfold celI; rw [if_pos h3])
