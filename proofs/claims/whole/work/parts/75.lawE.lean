/-! the law's loop -/
set_option maxHeartbeats 4000000 in
set_option maxRecDepth 100000 in
theorem law_loop {p : Program} {l : Launch} {e : Env} {s : State} {m : MethodId} {below : List Frame} {meth : Method} {c : Code} {bs L : Nat} {xs : Nat → Int32} {g : q_G} {a : Nat → Nat → Nat} {b d : Nat → Nat} (hL : L ≤ 2560) (hret : meth.sig.returnType = ret) (hlk : meth.locks = false) (C0 : lw_C p s m c bs L xs g a b d) : ∀ (fu i K : Nat) (V : q_CV) (M : q_MV) (H : Heap) (locs : List Loc), i = 5 * K → i ≤ L → L < i + fu → q_rel K V M → va_S (fun q : Nat => s.heap.size ≤ q) s.heap H locs → va_P g.1 vwCl (q_pqW g a b V) H → va_P g.1 vwCl (q_mdW g d M) H → ∀ ls : Array Slot, lv_has ls 4 [(3, .int (nI i)), (0, .ref bs), (1, .ref (b 0)), (2, .ref (d 0))] → W p l e room_1 s m #[Value.ref bs] below meth c H locs 112 15021 (lw_Z below #[Value.ref bs] s) (F0 m 18 ls []) := by
  intro fu
  induction fu with
  | zero => intro i K V M H locs hiK hi hn; exact absurd hn (by omega)
  | succ fu ih =>
    intro i K V M H locs hiK hi hn hr hS hP hM ls hl
    obtain ⟨hx, hb, hml, hown, hts, hX, hbl, hK, -⟩ := id C0
    have hbA : ¬ (fun q : Nat => s.heap.size ≤ q) bs := Nat.not_le.mpr hbl
    refine lv_iload_n hx hb dL_law_18 rfl (lv_at hl 0 rfl) ?_
    refine lv_aload_n hx hb dL_law_19 rfl (lv_at hl 1 rfl) ?_
    refine va_slen hx hb hX hbl hbA hS dL_law_20 ?_
    refine lv_iconst (v := 5) hx hb dL_law_21 (by decide) ?_
    refine lv_isub hx hb dL_law_22 ?_
    refine lv_icmp_gt (tgt := 876) hx hb dL_law_23 (by decide) (fun _ => ?_) (fun c1 => ?_)
    · refine lv_iconst (v := 1) hx hb dL_law_876 (by decide) ?_
      refine W.widen (k := 600000) (n := 7302250) (Nat.le_of_ble_eq_true rfl) (Nat.le_of_ble_eq_true rfl) ?_
      refine va_forget (fun q hq => hS.2.2 q hq) ?_
      exact lw_ret hx hb hret hlk dL_law_877
    · have hle : i + 5 ≤ L := law_F hL hi c1
      have hK5 : K ≤ 512 := by omega
      have hc : (112 : Nat) ≤ 600000 := Nat.le_of_ble_eq_true rfl
      have hs : (15021 : Nat) ≤ 7302250 := Nat.le_of_ble_eq_true rfl
      have kk : ∀ (V1 : q_CV) (M1 : q_MV) (H1 : Heap) (locs1 : List Loc), q_rel (K + 1) V1 M1 → va_S (fun q : Nat => s.heap.size ≤ q) s.heap H1 locs1 → va_P g.1 vwCl (q_pqW g a b V1) H1 → va_P g.1 vwCl (q_mdW g d M1) H1 → W p l e room_1 s m #[Value.ref bs] below meth c H1 locs1 112 15021 (lw_Z below #[Value.ref bs] s) (F0 m 870 ls []) := by
        intro V1 M1 H1 locs1 h1 h2 h3 h4
        refine lv_iinc (v := nI (i + 5)) (lv' := [(3, .int (nI (i + 5))), (0, .ref bs), (1, .ref (b 0)), (2, .ref (d 0))]) hx hb dL_law_870 hl (k := 0) rfl (nI_add i 5) (by decide) rfl (fun ls hl => ?_)
        refine lv_goto (tgt := 18) hx hb dL_law_873 (by decide) ?_
        exact ih (i + 5) (K + 1) V1 M1 H1 locs1 (by omega) (by omega) (by omega) h1 h2 h3 h4 ls hl
      refine lv_aload_n hx hb dL_law_26 rfl (lv_at hl 1 rfl) ?_
      refine lv_iload_n hx hb dL_law_27 rfl (lv_at hl 0 rfl) ?_
      refine va_sld hx hb hX hbl hbA hS (vp_in_nI (by omega) (by omega)) dL_law_28 ?_
      refine q_ildj (f := xs) (by omega) ?_
      refine lv_bipush (v := 31) hx hb dL_law_29 (by decide) ?_
      refine lv_iand hx hb dL_law_31 ?_
      generalize xs i &&& 31 = z
      by_cases w_0 : z = 0
      · have tx : z.toInt = 0 := by rw [w_0]; decide
        refine lv_tableIn (tgt := 152) (off := 120) hx hb dL_law_32 (by rw [tx]; decide) (by rw [tx]; decide) (by rw [tx]; rfl) (by decide) ?_
        exact law_set C0 hle hL hK5 hr hS hP hM hl hc hs kk
      by_cases w_1 : z = 1
      · have tx : z.toInt = 1 := by rw [w_1]; decide
        refine lv_tableIn (tgt := 185) (off := 153) hx hb dL_law_32 (by rw [tx]; decide) (by rw [tx]; decide) (by rw [tx]; rfl) (by decide) ?_
        exact law_team C0 hle hL hK5 hr hS hP hM hl hc hs kk
      by_cases w_2 : z = 2
      · have tx : z.toInt = 2 := by rw [w_2]; decide
        refine lv_tableIn (tgt := 198) (off := 166) hx hb dL_law_32 (by rw [tx]; decide) (by rw [tx]; decide) (by rw [tx]; rfl) (by decide) ?_
        exact law_hand C0 hle hL hK5 hr hS hP hM hl hc hs kk
      by_cases w_3 : z = 3
      · have tx : z.toInt = 3 := by rw [w_3]; decide
        refine lv_tableIn (tgt := 231) (off := 199) hx hb dL_law_32 (by rw [tx]; decide) (by rw [tx]; decide) (by rw [tx]; rfl) (by decide) ?_
        exact law_joker C0 hle hL hK5 hr hS hP hM hl hc hs kk
      by_cases w_4 : z = 4
      · have tx : z.toInt = 4 := by rw [w_4]; decide
        refine lv_tableIn (tgt := 264) (off := 232) hx hb dL_law_32 (by rw [tx]; decide) (by rw [tx]; decide) (by rw [tx]; rfl) (by decide) ?_
        exact law_key C0 hle hL hK5 hr hS hP hM hl hc hs kk
      by_cases w_5 : z = 5
      · have tx : z.toInt = 5 := by rw [w_5]; decide
        refine lv_tableIn (tgt := 287) (off := 255) hx hb dL_law_32 (by rw [tx]; decide) (by rw [tx]; decide) (by rw [tx]; rfl) (by decide) ?_
        exact law_mark C0 hle hL hK5 hr hS hP hM hl hc hs kk
      by_cases w_6 : z = 6
      · have tx : z.toInt = 6 := by rw [w_6]; decide
        refine lv_tableIn (tgt := 340) (off := 308) hx hb dL_law_32 (by rw [tx]; decide) (by rw [tx]; decide) (by rw [tx]; rfl) (by decide) ?_
        exact law_look C0 hle hL hK5 hr hS hP hM hl hc hs kk
      by_cases w_7 : z = 7
      · have tx : z.toInt = 7 := by rw [w_7]; decide
        refine lv_tableIn (tgt := 373) (off := 341) hx hb dL_law_32 (by rw [tx]; decide) (by rw [tx]; decide) (by rw [tx]; rfl) (by decide) ?_
        exact law_guess C0 hle hL hK5 hr hS hP hM hl hc hs kk
      by_cases w_8 : z = 8
      · have tx : z.toInt = 8 := by rw [w_8]; decide
        refine lv_tableIn (tgt := 406) (off := 374) hx hb dL_law_32 (by rw [tx]; decide) (by rw [tx]; decide) (by rw [tx]; rfl) (by decide) ?_
        exact law_truth C0 hle hL hK5 hr hS hP hM hl hc hs kk
      by_cases w_9 : z = 9
      · have tx : z.toInt = 9 := by rw [w_9]; decide
        refine lv_tableIn (tgt := 429) (off := 397) hx hb dL_law_32 (by rw [tx]; decide) (by rw [tx]; decide) (by rw [tx]; rfl) (by decide) ?_
        exact law_ofTeam C0 hle hL hK5 hr hS hP hM hl hc hs kk
      by_cases w_10 : z = 10
      · have tx : z.toInt = 10 := by rw [w_10]; decide
        refine lv_tableIn (tgt := 462) (off := 430) hx hb dL_law_32 (by rw [tx]; decide) (by rw [tx]; decide) (by rw [tx]; rfl) (by decide) ?_
        exact law_ofRound C0 hle hL hK5 hr hS hP hM hl hc hs kk
      by_cases w_11 : z = 11
      · have tx : z.toInt = 11 := by rw [w_11]; decide
        refine lv_tableIn (tgt := 495) (off := 463) hx hb dL_law_32 (by rw [tx]; decide) (by rw [tx]; decide) (by rw [tx]; rfl) (by decide) ?_
        exact law_sheet C0 hle hL hK5 hr hS hP hM hl hc hs kk
      by_cases w_12 : z = 12
      · have tx : z.toInt = 12 := by rw [w_12]; decide
        refine lv_tableIn (tgt := 538) (off := 506) hx hb dL_law_32 (by rw [tx]; decide) (by rw [tx]; decide) (by rw [tx]; rfl) (by decide) ?_
        exact law_answer C0 hle hL hK5 hr hS hP hM hl hc hs kk
      by_cases w_13 : z = 13
      · have tx : z.toInt = 13 := by rw [w_13]; decide
        refine lv_tableIn (tgt := 581) (off := 549) hx hb dL_law_32 (by rw [tx]; decide) (by rw [tx]; decide) (by rw [tx]; rfl) (by decide) ?_
        exact law_at C0 hle hL hK5 hr hS hP hM hl hc hs kk
      by_cases w_14 : z = 14
      · have tx : z.toInt = 14 := by rw [w_14]; decide
        refine lv_tableIn (tgt := 604) (off := 572) hx hb dL_law_32 (by rw [tx]; decide) (by rw [tx]; decide) (by rw [tx]; rfl) (by decide) ?_
        exact law_count C0 hle hL hK5 hr hS hP hM hl hc hs kk
      by_cases w_15 : z = 15
      · have tx : z.toInt = 15 := by rw [w_15]; decide
        refine lv_tableIn (tgt := 627) (off := 595) hx hb dL_law_32 (by rw [tx]; decide) (by rw [tx]; decide) (by rw [tx]; rfl) (by decide) ?_
        exact law_bestJoker C0 hle hL hK5 hr hS hP hM hl hc hs kk
      by_cases w_16 : z = 16
      · have tx : z.toInt = 16 := by rw [w_16]; decide
        refine lv_tableIn (tgt := 660) (off := 628) hx hb dL_law_32 (by rw [tx]; decide) (by rw [tx]; decide) (by rw [tx]; rfl) (by decide) ?_
        exact law_most C0 hle hL hK5 hr hS hP hM hl hc hs kk
      by_cases w_17 : z = 17
      · have tx : z.toInt = 17 := by rw [w_17]; decide
        refine lv_tableIn (tgt := 683) (off := 651) hx hb dL_law_32 (by rw [tx]; decide) (by rw [tx]; decide) (by rw [tx]; rfl) (by decide) ?_
        exact law_canWin C0 hle hL hK5 hr hS hP hM hl hc hs kk
      by_cases w_18 : z = 18
      · have tx : z.toInt = 18 := by rw [w_18]; decide
        refine lv_tableIn (tgt := 696) (off := 664) hx hb dL_law_32 (by rw [tx]; decide) (by rw [tx]; decide) (by rw [tx]; rfl) (by decide) ?_
        exact law_ifLooked C0 hle hL hK5 hr hS hP hM hl hc hs kk
      by_cases w_19 : z = 19
      · have tx : z.toInt = 19 := by rw [w_19]; decide
        refine lv_tableIn (tgt := 719) (off := 687) hx hb dL_law_32 (by rw [tx]; decide) (by rw [tx]; decide) (by rw [tx]; rfl) (by decide) ?_
        exact law_wrongMarks C0 hle hL hK5 hr hS hP hM hl hc hs kk
      by_cases w_20 : z = 20
      · have tx : z.toInt = 20 := by rw [w_20]; decide
        refine lv_tableIn (tgt := 732) (off := 700) hx hb dL_law_32 (by rw [tx]; decide) (by rw [tx]; decide) (by rw [tx]; rfl) (by decide) ?_
        exact law_put C0 hle hL hK5 hr hS hP hM hl hc hs kk
      by_cases w_21 : z = 21
      · have tx : z.toInt = 21 := by rw [w_21]; decide
        refine lv_tableIn (tgt := 785) (off := 753) hx hb dL_law_32 (by rw [tx]; decide) (by rw [tx]; decide) (by rw [tx]; rfl) (by decide) ?_
        exact law_wipe C0 hle hL hK5 hr hS hP hM hl hc hs kk
      by_cases w_22 : z = 22
      · have tx : z.toInt = 22 := by rw [w_22]; decide
        refine lv_tableIn (tgt := 798) (off := 766) hx hb dL_law_32 (by rw [tx]; decide) (by rw [tx]; decide) (by rw [tx]; rfl) (by decide) ?_
        exact law_fault C0 hle hL hK5 hr hS hP hM hl hc hs kk
      by_cases w_23 : z = 23
      · have tx : z.toInt = 23 := by rw [w_23]; decide
        refine lv_tableIn (tgt := 811) (off := 779) hx hb dL_law_32 (by rw [tx]; decide) (by rw [tx]; decide) (by rw [tx]; rfl) (by decide) ?_
        exact law_undo C0 hle hL hK5 hr hS hP hM hl hc hs kk
      by_cases w_24 : z = 24
      · have tx : z.toInt = 24 := by rw [w_24]; decide
        refine lv_tableIn (tgt := 824) (off := 792) hx hb dL_law_32 (by rw [tx]; decide) (by rw [tx]; decide) (by rw [tx]; rfl) (by decide) ?_
        exact law_save C0 hle hL hK5 hr hS hP hM hl hc hs kk
      by_cases w_25 : z = 25
      · have tx : z.toInt = 25 := by rw [w_25]; decide
        refine lv_tableIn (tgt := 847) (off := 815) hx hb dL_law_32 (by rw [tx]; decide) (by rw [tx]; decide) (by rw [tx]; rfl) (by decide) ?_
        exact law_restore C0 hle hL hK5 hr hS hP hM hl hc hs kk
      have tw := q_tab (n := 26) (lo := 0) (x := z) (by decide) (lt_s (p := fun k => ¬ z = nI (k + 0)) (lt_s (p := fun k => ¬ z = nI (k + 0)) (lt_s (p := fun k => ¬ z = nI (k + 0)) (lt_s (p := fun k => ¬ z = nI (k + 0)) (lt_s (p := fun k => ¬ z = nI (k + 0)) (lt_s (p := fun k => ¬ z = nI (k + 0)) (lt_s (p := fun k => ¬ z = nI (k + 0)) (lt_s (p := fun k => ¬ z = nI (k + 0)) (lt_s (p := fun k => ¬ z = nI (k + 0)) (lt_s (p := fun k => ¬ z = nI (k + 0)) (lt_s (p := fun k => ¬ z = nI (k + 0)) (lt_s (p := fun k => ¬ z = nI (k + 0)) (lt_s (p := fun k => ¬ z = nI (k + 0)) (lt_s (p := fun k => ¬ z = nI (k + 0)) (lt_s (p := fun k => ¬ z = nI (k + 0)) (lt_s (p := fun k => ¬ z = nI (k + 0)) (lt_s (p := fun k => ¬ z = nI (k + 0)) (lt_s (p := fun k => ¬ z = nI (k + 0)) (lt_s (p := fun k => ¬ z = nI (k + 0)) (lt_s (p := fun k => ¬ z = nI (k + 0)) (lt_s (p := fun k => ¬ z = nI (k + 0)) (lt_s (p := fun k => ¬ z = nI (k + 0)) (lt_s (p := fun k => ¬ z = nI (k + 0)) (lt_s (p := fun k => ¬ z = nI (k + 0)) (lt_s (p := fun k => ¬ z = nI (k + 0)) (lt_s (p := fun k => ¬ z = nI (k + 0)) (lt_0) w_0) w_1) w_2) w_3) w_4) w_5) w_6) w_7) w_8) w_9) w_10) w_11) w_12) w_13) w_14) w_15) w_16) w_17) w_18) w_19) w_20) w_21) w_22) w_23) w_24) w_25)
      refine lv_tableOut (tgt := 870) hx hb dL_law_32 (by omega) (by decide) ?_
      exact kk V M H locs (rl_up hr) hS hP hM
