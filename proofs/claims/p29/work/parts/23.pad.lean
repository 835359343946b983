/-! the pad: what it tells -/
def q_pdW (g : q_G) (u w : Nat) (C : Nat → Int32) (n : Nat) : va_W := [(u, .inr (1, [.ref w, .int (nI n)])), (w, .inl (g.2 0, 80, .inl C))]
def isDg (x : Int32) : Bool := !decide (x < 48) && !decide (57 < x)
def isSg (x : Int32) : Bool := decide (x = 45) || isDg x
def sgv (x : Int32) : Int32 := if isDg x = true then x - 48 else 15
def wsg (w : Int64) (k : Nat) (x : Int32) : Int64 := w ||| (x.toInt64 <<< (((4 : Int32) * nI k).toInt64 &&& 63))
def sigs (C : Nat → Int32) : Nat → Int64
  | 0 => 0
  | n + 1 => wsg (sigs C n) n (sgv (C n))
def lead (f : Nat → Bool) : Nat → Nat
  | 0 => 0
  | n + 1 => if lead f n = n ∧ f n = true then n + 1 else lead f n
theorem lead_le (f : Nat → Bool) : ∀ n : Nat, lead f n ≤ n
  | 0 => Nat.le_refl 0
  | n + 1 => by
    have h := lead_le f n
    unfold lead
    split <;> omega
theorem lead_s {f : Nat → Bool} {n : Nat} (h : lead f n = n) (hf : f n = true) : lead f (n + 1) = n + 1 := by
  unfold lead
  rw [if_pos ⟨h, hf⟩]
theorem lead_stop {f : Nat → Bool} {i : Nat} (h : lead f i = i) (hf : f i = false) : ∀ {n : Nat}, i ≤ n → lead f n = i
  | 0, hn => by have e : i = 0 := by omega
                subst e; rfl
  | n + 1, hn => by
    rcases Nat.lt_or_ge i (n + 1) with c | c
    · have e := lead_stop h hf (n := n) (by omega)
      unfold lead
      rw [e]
      rw [if_neg]
      rintro ⟨e1, e2⟩
      subst e1
      rw [hf] at e2; cases e2
    · have e : i = n + 1 := by omega
      subst e; exact h
def pdf (C : Nat → Int32) (k : Nat) : Bool := decide (k < 10) && isSg (C k)
def fauI (C : Nat → Int32) (n : Nat) : Int32 := if lead (pdf C) n = 10 ∧ n = 10 then -6 else nI (lead (pdf C) n)
def tshP (C : Nat → Int32) (n : Nat) : Bool := decide (fauI C n = -6)
def tkyP (C : Nat → Int32) (n : Nat) : Bool := tshP C n && !q_any (fun k => !isDg (C k)) 10
theorem pdf_le {C : Nat → Int32} {n : Nat} (h : lead (pdf C) n = n) : n ≤ 10 := by
  cases n with
  | zero => omega
  | succ n =>
    unfold lead at h
    split at h
    · next c =>
      have := c.2
      simp [pdf] at this
      omega
    · have := lead_le (pdf C) n
      omega
theorem fau_stop {C : Nat → Int32} {i n : Nat} (h : lead (pdf C) i = i) (hf : pdf C i = false) (hn : i < n) : fauI C n = nI i := by
  unfold fauI
  rw [lead_stop h hf (Nat.le_of_lt hn), if_neg]
  have := pdf_le h
  omega
theorem fau_end {C : Nat → Int32} {n : Nat} (h : lead (pdf C) n = n) (hn : n < 10) : fauI C n = nI n := by
  unfold fauI
  rw [h, if_neg (by omega)]
theorem fau_none {C : Nat → Int32} {n : Nat} (h : lead (pdf C) n = n) (hn : ¬ n < 10) : fauI C n = -6 := by
  have := pdf_le h
  unfold fauI
  rw [h, if_pos (by omega)]
/-- characters told by a number: what is left after k of them -/
def sh8 (x : Int64) : Nat → Int64
  | 0 => x
  | k + 1 => ((sh8 x k).toUInt64 >>> ((8 : Int32).toInt64.toUInt64 &&& Int64.toUInt64 63)).toInt64
def chok (x : Int64) : Bool := !decide ((x &&& 255).toInt32 < 33) && decide ((x &&& 255).toInt32 ≤ 126)
def chN (x : Int64) (k : Nat) : Nat → Nat
  | 0 => k
  | f + 1 => if sh8 x k = 0 then k else if chok (sh8 x k) = true then chN x (k + 1) f else 0
theorem sh8_lN {n : Nat} (hn : n < 2 ^ 64) : ∀ k : Nat, sh8 (lN n) k = lN (n / 256 ^ k)
  | 0 => by rw [Nat.pow_zero, Nat.div_one]; rfl
  | k + 1 => by
    have h := sh8_lN hn k
    have h2 := wb_shr (n := n / 256 ^ k) (k := 8) (Nat.lt_of_le_of_lt (Nat.div_le_self _ _) hn) (by decide)
    unfold sh8
    rw [h, show (8 : Int32) = nI 8 from rfl, h2, Nat.div_div_eq_div_mul, show 256 ^ (k + 1) = 256 ^ k * 2 ^ 8 from Nat.pow_succ ..]
theorem sh8_8 (x : Int64) : sh8 x 8 = 0 := by
  obtain ⟨n, hn, rfl⟩ := wb_of x
  rw [sh8_lN hn, Nat.div_eq_of_lt (show n < 256 ^ 8 from hn)]
  rfl
theorem ch_0 {x : Int64} {k f : Nat} (h : sh8 x k = 0) : chN x k f = k := by
  cases f with
  | zero => rfl
  | succ f => simp [chN, h]
theorem ch_b {x : Int64} {k f : Nat} (h : ¬ sh8 x k = 0) (hc : chok (sh8 x k) = false) : chN x k (f + 1) = 0 := by simp [chN, h, hc]
theorem ch_s {x : Int64} {k f : Nat} (h : ¬ sh8 x k = 0) (hc : chok (sh8 x k) = true) : chN x k (f + 1) = chN x (k + 1) f := by simp [chN, h, hc]
theorem ch_ok0 {x : Int64} (h : x &&& 255 = 0) : chok x = false := by simp only [chok, h]; decide
theorem chok_1 {x : Int64} (h : (x &&& 255).toInt32 < 33) : chok x = false := by
  unfold chok; rw [decide_eq_true h]; rfl
theorem chok_2 {x : Int64} (h : ¬ (x &&& 255).toInt32 ≤ 126) : chok x = false := by
  unfold chok; rw [decide_eq_false h]; exact Bool.and_false _
theorem chok_3 {x : Int64} (h : ¬ (x &&& 255).toInt32 < 33) (h2 : (x &&& 255).toInt32 ≤ 126) : chok x = true := by
  unfold chok; rw [decide_eq_false h, decide_eq_true h2]; rfl
theorem ch_nz {x : Int64} (h : ¬ x &&& 255 = 0) : ¬ x = 0 := by rintro rfl; exact h (by decide)

set_option maxHeartbeats 4000000 in
set_option maxRecDepth 100000 in
theorem c_X1_isDigit (l : Launch) (x : Int32) : q_PM l yX1_isDigit wsX1_isDigit { frames := 0, cells := 0, slots := 0, locals := 0 } [.int x] (fun _ => True) (.int (bI (isDg x))) := by
  refine q_pm (cc := cX1_isDigit) (maxL := 1) (ret := (some .boolean)) (by decide) rfl (Nat.le_of_ble_eq_true rfl) ?_
  intro p e s m args below meth c ls hx hb hml hown hts hr hlk _ hl
  have hl : lv_has ls 1 [(0, .int x)] := hl
  refine lv_iload_n hx hb dX1_isDigit_0 rfl (lv_at hl 0 rfl) ?_
  refine lv_bipush (v := 48) hx hb dX1_isDigit_1 (by decide) ?_
  refine lv_icmp_lt (tgt := 16) hx hb dX1_isDigit_3 (by decide) (fun c_3 => ?_) (fun c_3 => ?_)
  · skip
    refine lv_iconst (v := 0) hx hb dX1_isDigit_16 (by decide) ?_
    exact q_zret hx hb hr hlk dX1_isDigit_17 (by simp [isDg, bI, c_3])
  · skip
    refine lv_iload_n hx hb dX1_isDigit_6 rfl (lv_at hl 0 rfl) ?_
    refine lv_bipush (v := 57) hx hb dX1_isDigit_7 (by decide) ?_
    refine lv_icmp_gt (tgt := 16) hx hb dX1_isDigit_9 (by decide) (fun c_9 => ?_) (fun c_9 => ?_)
    · skip
      refine lv_iconst (v := 0) hx hb dX1_isDigit_16 (by decide) ?_
      exact q_zret hx hb hr hlk dX1_isDigit_17 (by simp [isDg, bI, c_3, c_9])
    · skip
      refine lv_iconst (v := 1) hx hb dX1_isDigit_12 (by decide) ?_
      refine lv_goto (tgt := 17) hx hb dX1_isDigit_13 (by decide) ?_
      exact q_zret hx hb hr hlk dX1_isDigit_17 (by simp [isDg, bI, c_3, c_9])

set_option maxHeartbeats 4000000 in
set_option maxRecDepth 100000 in
theorem c_X1_isSign (l : Launch) (x : Int32) : q_PM l yX1_isSign wsX1_isSign { frames := 1, cells := 0, slots := 0, locals := 20 } [.int x] (fun _ => True) (.int (bI (isSg x))) := by
  refine q_pm (cc := cX1_isSign) (maxL := 1) (ret := (some .boolean)) (by decide) rfl (Nat.le_of_ble_eq_true rfl) ?_
  intro p e s m args below meth c ls hx hb hml hown hts hr hlk _ hl
  have hl : lv_has ls 1 [(0, .int x)] := hl
  refine lv_iload_n hx hb dX1_isSign_0 rfl (lv_at hl 0 rfl) ?_
  refine lv_bipush (v := 45) hx hb dX1_isSign_1 (by decide) ?_
  refine lv_icmp_eq (tgt := 13) hx hb dX1_isSign_3 (by decide) (fun c_3 => ?_) (fun c_3 => ?_)
  · skip
    refine lv_iconst (v := 1) hx hb dX1_isSign_13 (by decide) ?_
    refine lv_goto (tgt := 18) hx hb dX1_isSign_14 (by decide) ?_
    exact q_zret hx hb hr hlk dX1_isSign_18 (by simp [isSg, bI, c_3])
  · skip
    refine lv_iload_n hx hb dX1_isSign_6 rfl (lv_at hl 0 rfl) ?_
    refine q_S (As := [.int x]) (rest := []) ⟨hx, hb, hml, hown, hts⟩ (c_X1_isDigit l x ) (va_cwS 1 hts gX1_isSign_X1_isDigit rfl rfl rfl (by decide +kernel) ⟨Nat.le_of_ble_eq_true rfl, Nat.le_of_ble_eq_true rfl⟩) q_Blind_t (fun _ _ _ => trivial) rfl hl.1 rfl (Nat.le_of_ble_eq_true rfl) dX1_isSign_7 (Nat.zero_le _) (Nat.zero_le _) ?_
    refine lv_if_eq (tgt := 17) hx hb dX1_isSign_10 (by decide) (fun c_10 => ?_) (fun c_10 => ?_)
    · skip
      have c_10 : (isDg x) = false := bI_eq c_10
      refine lv_iconst (v := 0) hx hb dX1_isSign_17 (by decide) ?_
      exact q_zret hx hb hr hlk dX1_isSign_18 (by simp [isSg, bI, c_3, c_10])
    · skip
      have c_10 : (isDg x) = true := bI_ne c_10
      refine lv_iconst (v := 1) hx hb dX1_isSign_13 (by decide) ?_
      refine lv_goto (tgt := 18) hx hb dX1_isSign_14 (by decide) ?_
      exact q_zret hx hb hr hlk dX1_isSign_18 (by simp [isSg, bI, c_3, c_10])

set_option maxHeartbeats 4000000 in
set_option maxRecDepth 100000 in
theorem c_X2_withSign (l : Launch) (w : Int64) (k : Nat) (x : Int32) : q_PM l yX2_withSign wsX2_withSign { frames := 0, cells := 0, slots := 0, locals := 0 } [.long w, .int (nI k), .int x] (fun _ => True) (.long (wsg w k x)) := by
  refine q_pm (cc := cX2_withSign) (maxL := 4) (ret := (some .long)) (by decide) rfl (Nat.le_of_ble_eq_true rfl) ?_
  intro p e s m args below meth c ls hx hb hml hown hts hr hlk _ hl
  have hl : lv_has ls 4 [(0, .long w), (2, .int (nI k)), (3, .int x)] := hl
  refine lv_lload_n hx hb dX2_withSign_0 rfl (lv_at hl 0 rfl) ?_
  refine lv_iload_n hx hb dX2_withSign_1 rfl (lv_at hl 2 rfl) ?_
  refine lv_i2l (v := x.toInt64) hx hb dX2_withSign_2 rfl ?_
  refine lv_iconst (v := 4) hx hb dX2_withSign_3 (by decide) ?_
  refine lv_iload_n hx hb dX2_withSign_4 rfl (lv_at hl 1 rfl) ?_
  refine lv_imul hx hb dX2_withSign_5 ?_
  refine lv_lshl (v := (x.toInt64) <<< ((4 * (nI k)).toInt64 &&& 63)) hx hb dX2_withSign_6 rfl ?_
  refine lv_lor hx hb dX2_withSign_7 ?_
  exact q_lret hx hb hr hlk dX2_withSign_8 (rfl)

set_option maxHeartbeats 4000000 in
set_option maxRecDepth 100000 in
theorem c_X1_length (l : Launch) (g : q_G) (u w : Nat) (C : Nat → Int32) (n : Nat) : q_PM l yX1_length wsX1_length { frames := 0, cells := 0, slots := 0, locals := 0 } [.ref u] (q_B g (q_pdW g u w C n)) (.int (nI n)) := by
  refine q_pm (cc := cX1_length) (maxL := 1) (ret := (some .int)) (by decide) rfl (Nat.le_of_ble_eq_true rfl) ?_
  intro p e s m args below meth c ls hx hb hml hown hts hr hlk hB hl
  obtain ⟨hP, hK, hN⟩ := hB
  have fl_17 := hts (.fieldLink RX1 17 "PubQuizzes$Pad" "length" "I") (by decide +kernel)
  have hi_X1 : ∀ w ∈ u_ws RX1 TX1 2, w ∈ wsX1_length := by decide +kernel
  have hl : lv_has ls 1 [(0, .ref u)] := hl
  refine lv_aload_n hx hb dX1_length_0 rfl (lv_at hl 0 rfl) ?_
  refine va_get (D := g.1) (ci := 1) (v := .int (nI n)) (C := RX1) (T := TX1) (N := 2) hx hb hts hi_X1 hown hK hP 0 rfl rfl 1 (by decide) fl_17 (fun _ h9 => h9) rfl dX1_length_1 ?_
  exact q_iret hx hb hr hlk dX1_length_4 (rfl)

set_option maxHeartbeats 4000000 in
set_option maxRecDepth 100000 in
theorem c_X1_faultIndex (l : Launch) (g : q_G) (u w : Nat) (C : Nat → Int32) (n : Nat) (h1_ : n ≤ 80) : q_PM l yX1_faultIndex wsX1_faultIndex { frames := 2, cells := 0, slots := 0, locals := 40 } [.ref u] (q_B g (q_pdW g u w C n)) (.int (fauI C n)) := by
  refine q_pm (cc := cX1_faultIndex) (maxL := 2) (ret := (some .int)) (by decide) rfl (Nat.le_of_ble_eq_true rfl) ?_
  intro p e s m args below meth c ls hx hb hml hown hts hr hlk hB hl
  obtain ⟨hP, hK, hN⟩ := hB
  have fl_11 := hts (.fieldLink RX1 11 "PubQuizzes$Pad" "codes" "[I") (by decide +kernel)
  have fl_17 := hts (.fieldLink RX1 17 "PubQuizzes$Pad" "length" "I") (by decide +kernel)
  have hi_X1 : ∀ w ∈ u_ws RX1 TX1 2, w ∈ wsX1_faultIndex := by decide +kernel
  have hl : lv_has ls 2 [(0, .ref u)] := hl
  refine lv_iconst (v := 0) hx hb dX1_faultIndex_0 (by decide) ?_
  refine lv_istore_n (lv' := [(1, .int 0), (0, .ref u)]) hx hb dX1_faultIndex_1 rfl hl (by decide) rfl (fun ls hl => ?_)
  have L_2 : ∀ (fu i2 : Nat), (lead (pdf C) i2 = i2) → i2 ≤ n → n < i2 + fu → ∀ ls : Array Slot, lv_has ls 2 [(1, .int (nI i2)), (0, .ref u)] → W p l e { frames := 2, cells := 0, slots := 0, locals := 40 } s m args below meth c s.heap [] 0 0 (MQ below (k2_QcV (.int (fauI C n))) args s 0 0 (fun _ => False)) (F0 m 2 ls []) := by
    intro fu
    induction fu with
    | zero => intro i2 hf hi_i2 hn_i2; exact absurd hn_i2 (by omega)
    | succ fu ih_i2 =>
      intro i2 hf hi_i2 hn_i2 ls hl
      refine lv_iload_n hx hb dX1_faultIndex_2 rfl (lv_at hl 0 rfl) ?_
      refine lv_aload_n hx hb dX1_faultIndex_3 rfl (lv_at hl 1 rfl) ?_
      refine va_get (D := g.1) (ci := 1) (v := .int (nI n)) (C := RX1) (T := TX1) (N := 2) hx hb hts hi_X1 hown hK hP 0 rfl rfl 1 (by decide) fl_17 (fun _ h9 => h9) rfl dX1_faultIndex_4 ?_
      refine lv_icmp_ge (tgt := 42) hx hb dX1_faultIndex_7 (by decide) (fun c_7 => ?_) (fun c_7 => ?_)
      · skip
        have e_7 : i2 = n := q_ge_T (by omega) hi_i2 c_7
        rw [e_7] at hf
        refine lv_aload_n hx hb dX1_faultIndex_42 rfl (lv_at hl 1 rfl) ?_
        refine va_get (D := g.1) (ci := 1) (v := .int (nI n)) (C := RX1) (T := TX1) (N := 2) hx hb hts hi_X1 hown hK hP 0 rfl rfl 1 (by decide) fl_17 (fun _ h9 => h9) rfl dX1_faultIndex_43 ?_
        refine lv_bipush (v := 10) hx hb dX1_faultIndex_46 (by decide) ?_
        refine lv_icmp_ge (tgt := 58) hx hb dX1_faultIndex_48 (by decide) (fun c_48 => ?_) (fun c_48 => ?_)
        · skip
          have c_48 := (nI_leI (a := 10) (by decide) (by omega)).mp c_48
          refine lv_bipush (v := (-6)) hx hb dX1_faultIndex_58 (by decide) ?_
          exact q_iret hx hb hr hlk dX1_faultIndex_60 (by first | exact (fau_end hf c_48N).symm | exact (fau_none hf (by omega)).symm)
        · skip
          have c_48N : n < 10 := Nat.lt_of_not_le fun q => c_48 (nI_le q (by omega))
          refine lv_aload_n hx hb dX1_faultIndex_51 rfl (lv_at hl 1 rfl) ?_
          refine va_get (D := g.1) (ci := 1) (v := .int (nI n)) (C := RX1) (T := TX1) (N := 2) hx hb hts hi_X1 hown hK hP 0 rfl rfl 1 (by decide) fl_17 (fun _ h9 => h9) rfl dX1_faultIndex_52 ?_
          refine lv_goto (tgt := 60) hx hb dX1_faultIndex_55 (by decide) ?_
          exact q_iret hx hb hr hlk dX1_faultIndex_60 (by first | exact (fau_end hf c_48N).symm | exact (fau_none hf (by omega)).symm)
      · skip
        have lt_i2 : i2 < n := q_ge_F (by omega) hi_i2 c_7
        refine lv_iload_n hx hb dX1_faultIndex_10 rfl (lv_at hl 0 rfl) ?_
        refine lv_bipush (v := 80) hx hb dX1_faultIndex_11 (by decide) ?_
        refine lv_icmp_ge (tgt := 42) hx hb dX1_faultIndex_13 (by decide) (fun c_13 => ?_) (fun c_13 => ?_)
        · skip
          exact absurd ((nI_leI (a := 80) (by decide) (by omega)).mp c_13) (by omega)
        · skip
          refine lv_iload_n hx hb dX1_faultIndex_16 rfl (lv_at hl 0 rfl) ?_
          refine lv_bipush (v := 10) hx hb dX1_faultIndex_17 (by decide) ?_
          refine lv_icmp_ge (tgt := 34) hx hb dX1_faultIndex_19 (by decide) (fun c_19 => ?_) (fun c_19 => ?_)
          · skip
            have c_19 := (nI_leI (a := 10) (by decide) (by omega)).mp c_19
            refine lv_iload_n hx hb dX1_faultIndex_34 rfl (lv_at hl 0 rfl) ?_
            exact q_iret hx hb hr hlk dX1_faultIndex_35 (by first | exact (fau_stop hf (by simp [pdf]; omega) lt_i2).symm | exact (fau_stop hf (by simp [pdf, c_13, c_19]) lt_i2).symm)
          · skip
            have c_19N : ¬ 10 ≤ i2 := fun q => c_19 (nI_le q (by omega))
            refine lv_aload_n hx hb dX1_faultIndex_22 rfl (lv_at hl 1 rfl) ?_
            refine va_get (D := g.1) (ci := 1) (v := .ref w) (C := RX1) (T := TX1) (N := 2) hx hb hts hi_X1 hown hK hP 0 rfl rfl 0 (by decide) fl_11 (fun _ h9 => h9) rfl dX1_faultIndex_23 ?_
            refine lv_iload_n hx hb dX1_faultIndex_26 rfl (lv_at hl 0 rfl) ?_
            refine q_iald (j := i2) hx hb hK hP 1 0 rfl rfl (by omega) (by decide) dX1_faultIndex_27 ?_
            refine q_S (As := [.int (C i2)]) (rest := []) ⟨hx, hb, hml, hown, hts⟩ (c_X1_isSign l (C i2) ) (va_cwS 1 hts gX1_faultIndex_X1_isSign rfl rfl rfl (by decide +kernel) ⟨Nat.le_of_ble_eq_true rfl, Nat.le_of_ble_eq_true rfl⟩) q_Blind_t (fun _ _ _ => trivial) rfl hl.1 rfl (Nat.le_of_ble_eq_true rfl) dX1_faultIndex_28 (Nat.zero_le _) (Nat.zero_le _) ?_
            refine lv_if_ne (tgt := 36) hx hb dX1_faultIndex_31 (by decide) (fun c_31 => ?_) (fun c_31 => ?_)
            · skip
              have c_31 : (isSg (C i2)) = true := bI_ne c_31
              refine lv_iinc (v := nI (i2 + 1)) (lv' := [(1, .int (nI (i2 + 1))), (0, .ref u)]) hx hb dX1_faultIndex_36 hl (k := 0) rfl (nI_1 _) (by decide) rfl (fun ls hl => ?_)
              refine lv_goto (tgt := 2) hx hb dX1_faultIndex_39 (by decide) ?_
              exact ih_i2 (i2 + 1) (lead_s hf (by simp [pdf, c_31]; omega)) lt_i2 (by omega) ls (lv_sub hl [0, 1] rfl)
            · skip
              have c_31 : (isSg (C i2)) = false := bI_eq c_31
              refine lv_iload_n hx hb dX1_faultIndex_34 rfl (lv_at hl 0 rfl) ?_
              exact q_iret hx hb hr hlk dX1_faultIndex_35 (by first | exact (fau_stop hf (by simp [pdf]; omega) lt_i2).symm | exact (fau_stop hf (by simp [pdf, c_13, c_19, c_31]) lt_i2).symm)
  exact L_2 (n + 1) 0 (rfl) (Nat.zero_le _) (by omega) ls (lv_sub hl [0, 1] rfl)

set_option maxHeartbeats 4000000 in
set_option maxRecDepth 100000 in
theorem c_X1_tellsSheet (l : Launch) (g : q_G) (u w : Nat) (C : Nat → Int32) (n : Nat) (h1_ : n ≤ 80) : q_PM l yX1_tellsSheet wsX1_tellsSheet { frames := 3, cells := 0, slots := 0, locals := 61 } [.ref u] (q_B g (q_pdW g u w C n)) (.int (bI (tshP C n))) := by
  refine q_pm (cc := cX1_tellsSheet) (maxL := 1) (ret := (some .boolean)) (by decide) rfl (Nat.le_of_ble_eq_true rfl) ?_
  intro p e s m args below meth c ls hx hb hml hown hts hr hlk hB hl
  obtain ⟨hP, hK, hN⟩ := hB
  have hl : lv_has ls 1 [(0, .ref u)] := hl
  refine lv_aload_n hx hb dX1_tellsSheet_0 rfl (lv_at hl 0 rfl) ?_
  refine q_V (As := []) (rest := []) ⟨hx, hb, hml, hown, hts⟩ (c_X1_faultIndex l g u w C n  (by omega)) (cwV 0 hts gX1_tellsSheet_X1_faultIndex rfl rfl rfl (by decide +kernel) ⟨Nat.le_of_ble_eq_true rfl, Nat.le_of_ble_eq_true rfl⟩) q_B_blind (va_recv hK hP (ci := 1) (q0 := 0) rfl rfl) (q_B_of hP hK hN) rfl hl.1 rfl (Nat.le_of_ble_eq_true rfl) dX1_tellsSheet_1 (Nat.zero_le _) (Nat.zero_le _) ?_
  refine lv_bipush (v := (-6)) hx hb dX1_tellsSheet_4 (by decide) ?_
  refine lv_icmp_ne (tgt := 13) hx hb dX1_tellsSheet_6 (by decide) (fun c_6 => ?_) (fun c_6 => ?_)
  · skip
    refine lv_iconst (v := 0) hx hb dX1_tellsSheet_13 (by decide) ?_
    exact q_zret hx hb hr hlk dX1_tellsSheet_14 (by simp [tshP, bI, c_6])
  · skip
    refine lv_iconst (v := 1) hx hb dX1_tellsSheet_9 (by decide) ?_
    refine lv_goto (tgt := 14) hx hb dX1_tellsSheet_10 (by decide) ?_
    exact q_zret hx hb hr hlk dX1_tellsSheet_14 (by simp [tshP, bI, c_6])

set_option maxHeartbeats 4000000 in
set_option maxRecDepth 100000 in
theorem c_X1_tellsKey (l : Launch) (g : q_G) (u w : Nat) (C : Nat → Int32) (n : Nat) (h1_ : n ≤ 80) : q_PM l yX1_tellsKey wsX1_tellsKey { frames := 4, cells := 0, slots := 0, locals := 81 } [.ref u] (q_B g (q_pdW g u w C n)) (.int (bI (tkyP C n))) := by
  refine q_pm (cc := cX1_tellsKey) (maxL := 2) (ret := (some .boolean)) (by decide) rfl (Nat.le_of_ble_eq_true rfl) ?_
  intro p e s m args below meth c ls hx hb hml hown hts hr hlk hB hl
  obtain ⟨hP, hK, hN⟩ := hB
  have fl_11 := hts (.fieldLink RX1 11 "PubQuizzes$Pad" "codes" "[I") (by decide +kernel)
  have hi_X1 : ∀ w ∈ u_ws RX1 TX1 2, w ∈ wsX1_tellsKey := by decide +kernel
  have hl : lv_has ls 2 [(0, .ref u)] := hl
  refine lv_aload_n hx hb dX1_tellsKey_0 rfl (lv_at hl 0 rfl) ?_
  refine q_V (As := []) (rest := []) ⟨hx, hb, hml, hown, hts⟩ (c_X1_tellsSheet l g u w C n  (by omega)) (cwV 0 hts gX1_tellsKey_X1_tellsSheet rfl rfl rfl (by decide +kernel) ⟨Nat.le_of_ble_eq_true rfl, Nat.le_of_ble_eq_true rfl⟩) q_B_blind (va_recv hK hP (ci := 1) (q0 := 0) rfl rfl) (q_B_of hP hK hN) rfl hl.1 rfl (Nat.le_of_ble_eq_true rfl) dX1_tellsKey_1 (Nat.zero_le _) (Nat.zero_le _) ?_
  refine lv_if_ne (tgt := 9) hx hb dX1_tellsKey_4 (by decide) (fun c_4 => ?_) (fun c_4 => ?_)
  · skip
    have c_4 : (tshP C n) = true := bI_ne c_4
    refine lv_iconst (v := 0) hx hb dX1_tellsKey_9 (by decide) ?_
    refine lv_istore_n (lv' := [(1, .int 0), (0, .ref u)]) hx hb dX1_tellsKey_10 rfl hl (by decide) rfl (fun ls hl => ?_)
    have L_11 : ∀ (fu i11 : Nat), (q_any (fun k => !isDg (C k)) i11 = false) → i11 ≤ 10 → 10 < i11 + fu → ∀ ls : Array Slot, lv_has ls 2 [(1, .int (nI i11)), (0, .ref u)] → W p l e { frames := 4, cells := 0, slots := 0, locals := 81 } s m args below meth c s.heap [] 0 0 (MQ below (k2_QcV (.int (bI (tkyP C n)))) args s 0 0 (fun _ => False)) (F0 m 11 ls []) := by
      intro fu
      induction fu with
      | zero => intro i11 hf hi_i11 hn_i11; exact absurd hn_i11 (by omega)
      | succ fu ih_i11 =>
        intro i11 hf hi_i11 hn_i11 ls hl
        refine lv_iload_n hx hb dX1_tellsKey_11 rfl (lv_at hl 0 rfl) ?_
        refine lv_bipush (v := 10) hx hb dX1_tellsKey_12 (by decide) ?_
        refine lv_icmp_ge (tgt := 37) hx hb dX1_tellsKey_14 (by decide) (fun c_14 => ?_) (fun c_14 => ?_)
        · skip
          have e_14 : i11 = 10 := q_ge_T (by omega) hi_i11 c_14
          rw [e_14] at hf
          refine lv_iconst (v := 1) hx hb dX1_tellsKey_37 (by decide) ?_
          exact q_zret hx hb hr hlk dX1_tellsKey_38 (by simp [tkyP, bI, hf, c_4])
        · skip
          have lt_i11 : i11 < 10 := q_ge_F (by omega) hi_i11 c_14
          refine lv_aload_n hx hb dX1_tellsKey_17 rfl (lv_at hl 1 rfl) ?_
          refine va_get (D := g.1) (ci := 1) (v := .ref w) (C := RX1) (T := TX1) (N := 2) hx hb hts hi_X1 hown hK hP 0 rfl rfl 0 (by decide) fl_11 (fun _ h9 => h9) rfl dX1_tellsKey_18 ?_
          refine lv_iload_n hx hb dX1_tellsKey_21 rfl (lv_at hl 0 rfl) ?_
          refine q_iald (j := i11) hx hb hK hP 1 0 rfl rfl (by omega) (by decide) dX1_tellsKey_22 ?_
          refine q_S (As := [.int (C i11)]) (rest := []) ⟨hx, hb, hml, hown, hts⟩ (c_X1_isDigit l (C i11) ) (va_cwS 1 hts gX1_tellsKey_X1_isDigit rfl rfl rfl (by decide +kernel) ⟨Nat.le_of_ble_eq_true rfl, Nat.le_of_ble_eq_true rfl⟩) q_Blind_t (fun _ _ _ => trivial) rfl hl.1 rfl (Nat.le_of_ble_eq_true rfl) dX1_tellsKey_23 (Nat.zero_le _) (Nat.zero_le _) ?_
          refine lv_if_ne (tgt := 31) hx hb dX1_tellsKey_26 (by decide) (fun c_26 => ?_) (fun c_26 => ?_)
          · skip
            have c_26 : (isDg (C i11)) = true := bI_ne c_26
            refine lv_iinc (v := nI (i11 + 1)) (lv' := [(1, .int (nI (i11 + 1))), (0, .ref u)]) hx hb dX1_tellsKey_31 hl (k := 0) rfl (nI_1 _) (by decide) rfl (fun ls hl => ?_)
            refine lv_goto (tgt := 11) hx hb dX1_tellsKey_34 (by decide) ?_
            exact ih_i11 (i11 + 1) (by simp [q_any, hf, c_4, c_26]) lt_i11 (by omega) ls (lv_sub hl [0, 1] rfl)
          · skip
            have c_26 : (isDg (C i11)) = false := bI_eq c_26
            refine lv_iconst (v := 0) hx hb dX1_tellsKey_29 (by decide) ?_
            exact q_zret hx hb hr hlk dX1_tellsKey_30 (by simp [tkyP, bI, q_any_t lt_i11 (f := fun k => !isDg (C k)) (by simp [c_26])])
    exact L_11 (10 + 1) 0 (rfl) (Nat.zero_le _) (by omega) ls (lv_sub hl [0, 1] rfl)
  · skip
    have c_4 : (tshP C n) = false := bI_eq c_4
    refine lv_iconst (v := 0) hx hb dX1_tellsKey_7 (by decide) ?_
    exact q_zret hx hb hr hlk dX1_tellsKey_8 (by simp [tkyP, bI, c_4])

set_option maxHeartbeats 4000000 in
set_option maxRecDepth 100000 in
theorem c_X1_signs (l : Launch) (g : q_G) (u w : Nat) (C : Nat → Int32) (n : Nat) : q_PM l yX1_signs wsX1_signs { frames := 1, cells := 0, slots := 0, locals := 23 } [.ref u] (q_B g (q_pdW g u w C n)) (.long (sigs C 10)) := by
  refine q_pm (cc := cX1_signs) (maxL := 5) (ret := (some .long)) (by decide) rfl (Nat.le_of_ble_eq_true rfl) ?_
  intro p e s m args below meth c ls hx hb hml hown hts hr hlk hB hl
  obtain ⟨hP, hK, hN⟩ := hB
  have fl_11 := hts (.fieldLink RX1 11 "PubQuizzes$Pad" "codes" "[I") (by decide +kernel)
  have hi_X1 : ∀ w ∈ u_ws RX1 TX1 2, w ∈ wsX1_signs := by decide +kernel
  have hl : lv_has ls 5 [(0, .ref u)] := hl
  refine lv_lconst (v := 0) hx hb dX1_signs_0 (by decide) ?_
  refine lv_lstore_n (lv' := [(1, .long 0), (0, .ref u)]) hx hb dX1_signs_1 rfl hl (by decide) rfl (fun ls hl => ?_)
  refine lv_iconst (v := 0) hx hb dX1_signs_2 (by decide) ?_
  refine lv_istore_n (lv' := [(3, .int 0), (1, .long 0), (0, .ref u)]) hx hb dX1_signs_3 rfl hl (by decide) rfl (fun ls hl => ?_)
  have L_4 : ∀ (fu i4 : Nat) (y1_4 : Int64), y1_4 = sigs C i4 → i4 ≤ 10 → 10 < i4 + fu → ∀ ls : Array Slot, lv_has ls 5 [(3, .int (nI i4)), (1, .long y1_4), (0, .ref u)] → W p l e { frames := 1, cells := 0, slots := 0, locals := 23 } s m args below meth c s.heap [] 0 0 (MQ below (k2_QcV (.long (sigs C 10))) args s 0 0 (fun _ => False)) (F0 m 4 ls []) := by
    intro fu
    induction fu with
    | zero => intro i4 y1_4 ey1_4 hi_i4 hn_i4; exact absurd hn_i4 (by omega)
    | succ fu ih_i4 =>
      intro i4 y1_4 ey1_4 hi_i4 hn_i4 ls hl
      subst ey1_4
      refine lv_iload_n hx hb dX1_signs_4 rfl (lv_at hl 0 rfl) ?_
      refine lv_bipush (v := 10) hx hb dX1_signs_5 (by decide) ?_
      refine lv_icmp_ge (tgt := 52) hx hb dX1_signs_7 (by decide) (fun c_7 => ?_) (fun c_7 => ?_)
      · skip
        have e_7 : i4 = 10 := q_ge_T (by omega) hi_i4 c_7
        subst e_7
        refine lv_lload_n hx hb dX1_signs_52 rfl (lv_at hl 1 rfl) ?_
        exact q_lret hx hb hr hlk dX1_signs_53 (rfl)
      · skip
        have lt_i4 : i4 < 10 := q_ge_F (by omega) hi_i4 c_7
        refine lv_aload_n hx hb dX1_signs_10 rfl (lv_at hl 2 rfl) ?_
        refine va_get (D := g.1) (ci := 1) (v := .ref w) (C := RX1) (T := TX1) (N := 2) hx hb hts hi_X1 hown hK hP 0 rfl rfl 0 (by decide) fl_11 (fun _ h9 => h9) rfl dX1_signs_11 ?_
        refine lv_iload_n hx hb dX1_signs_14 rfl (lv_at hl 0 rfl) ?_
        refine q_iald (j := i4) hx hb hK hP 1 0 rfl rfl (by omega) (by decide) dX1_signs_15 ?_
        refine q_S (As := [.int (C i4)]) (rest := []) ⟨hx, hb, hml, hown, hts⟩ (c_X1_isDigit l (C i4) ) (va_cwS 1 hts gX1_signs_X1_isDigit rfl rfl rfl (by decide +kernel) ⟨Nat.le_of_ble_eq_true rfl, Nat.le_of_ble_eq_true rfl⟩) q_Blind_t (fun _ _ _ => trivial) rfl hl.1 rfl (Nat.le_of_ble_eq_true rfl) dX1_signs_16 (Nat.zero_le _) (Nat.zero_le _) ?_
        refine lv_if_eq (tgt := 34) hx hb dX1_signs_19 (by decide) (fun c_19 => ?_) (fun c_19 => ?_)
        · skip
          have c_19 : (isDg (C i4)) = false := bI_eq c_19
          refine lv_bipush (v := 15) hx hb dX1_signs_34 (by decide) ?_
          refine lv_istore (lv' := [(4, .int 15), (3, .int (nI i4)), (1, .long (sigs C i4)), (0, .ref u)]) hx hb dX1_signs_36 hl (by decide) rfl (fun ls hl => ?_)
          refine lv_lload_n hx hb dX1_signs_38 rfl (lv_at hl 2 rfl) ?_
          refine lv_iload_n hx hb dX1_signs_39 rfl (lv_at hl 1 rfl) ?_
          refine lv_iload hx hb dX1_signs_40 (lv_at hl 0 rfl) ?_
          refine q_S (As := [.long (sigs C i4), .int (nI i4), .int 15]) (rest := []) ⟨hx, hb, hml, hown, hts⟩ (c_X2_withSign l (sigs C i4) i4 15 ) (va_cwS 3 hts gX1_signs_X2_withSign rfl rfl rfl (by decide +kernel) ⟨Nat.le_of_ble_eq_true rfl, Nat.le_of_ble_eq_true rfl⟩) q_Blind_t (fun _ _ _ => trivial) rfl hl.1 rfl (Nat.le_of_ble_eq_true rfl) dX1_signs_42 (Nat.zero_le _) (Nat.zero_le _) ?_
          refine lv_lstore_n (lv' := [(1, .long (wsg (sigs C i4) i4 15)), (4, .int 15), (3, .int (nI i4)), (0, .ref u)]) hx hb dX1_signs_45 rfl hl (by decide) rfl (fun ls hl => ?_)
          refine lv_iinc (v := nI (i4 + 1)) (lv' := [(3, .int (nI (i4 + 1))), (1, .long (wsg (sigs C i4) i4 15)), (4, .int 15), (0, .ref u)]) hx hb dX1_signs_46 hl (k := 2) rfl (nI_1 _) (by decide) rfl (fun ls hl => ?_)
          refine lv_goto (tgt := 4) hx hb dX1_signs_49 (by decide) ?_
          exact ih_i4 (i4 + 1) (wsg (sigs C i4) i4 15) (by simp only [sigs, sgv, if_neg (Bool.eq_false_iff.mp c_19)]) lt_i4 (by omega) ls (lv_sub hl [0, 1, 3] rfl)
        · skip
          have c_19 : (isDg (C i4)) = true := bI_ne c_19
          refine lv_aload_n hx hb dX1_signs_22 rfl (lv_at hl 2 rfl) ?_
          refine va_get (D := g.1) (ci := 1) (v := .ref w) (C := RX1) (T := TX1) (N := 2) hx hb hts hi_X1 hown hK hP 0 rfl rfl 0 (by decide) fl_11 (fun _ h9 => h9) rfl dX1_signs_23 ?_
          refine lv_iload_n hx hb dX1_signs_26 rfl (lv_at hl 0 rfl) ?_
          refine q_iald (j := i4) hx hb hK hP 1 0 rfl rfl (by omega) (by decide) dX1_signs_27 ?_
          refine lv_bipush (v := 48) hx hb dX1_signs_28 (by decide) ?_
          refine lv_isub hx hb dX1_signs_30 ?_
          refine lv_goto (tgt := 36) hx hb dX1_signs_31 (by decide) ?_
          refine lv_istore (lv' := [(4, .int ((C i4) - 48)), (3, .int (nI i4)), (1, .long (sigs C i4)), (0, .ref u)]) hx hb dX1_signs_36 hl (by decide) rfl (fun ls hl => ?_)
          refine lv_lload_n hx hb dX1_signs_38 rfl (lv_at hl 2 rfl) ?_
          refine lv_iload_n hx hb dX1_signs_39 rfl (lv_at hl 1 rfl) ?_
          refine lv_iload hx hb dX1_signs_40 (lv_at hl 0 rfl) ?_
          refine q_S (As := [.long (sigs C i4), .int (nI i4), .int ((C i4) - 48)]) (rest := []) ⟨hx, hb, hml, hown, hts⟩ (c_X2_withSign l (sigs C i4) i4 ((C i4) - 48) ) (va_cwS 3 hts gX1_signs_X2_withSign rfl rfl rfl (by decide +kernel) ⟨Nat.le_of_ble_eq_true rfl, Nat.le_of_ble_eq_true rfl⟩) q_Blind_t (fun _ _ _ => trivial) rfl hl.1 rfl (Nat.le_of_ble_eq_true rfl) dX1_signs_42 (Nat.zero_le _) (Nat.zero_le _) ?_
          refine lv_lstore_n (lv' := [(1, .long (wsg (sigs C i4) i4 ((C i4) - 48))), (4, .int ((C i4) - 48)), (3, .int (nI i4)), (0, .ref u)]) hx hb dX1_signs_45 rfl hl (by decide) rfl (fun ls hl => ?_)
          refine lv_iinc (v := nI (i4 + 1)) (lv' := [(3, .int (nI (i4 + 1))), (1, .long (wsg (sigs C i4) i4 ((C i4) - 48))), (4, .int ((C i4) - 48)), (0, .ref u)]) hx hb dX1_signs_46 hl (k := 2) rfl (nI_1 _) (by decide) rfl (fun ls hl => ?_)
          refine lv_goto (tgt := 4) hx hb dX1_signs_49 (by decide) ?_
          exact ih_i4 (i4 + 1) (wsg (sigs C i4) i4 ((C i4) - 48)) (by simp only [sigs, sgv, if_pos c_19]) lt_i4 (by omega) ls (lv_sub hl [0, 1, 3] rfl)
  exact L_4 (10 + 1) 0 0 (rfl) (Nat.zero_le _) (by omega) ls (lv_sub hl [0, 1, 2] rfl)

set_option maxHeartbeats 4000000 in
set_option maxRecDepth 100000 in
theorem c_X1_charactersIn (l : Launch) (x : Int64) : q_PM l yX1_charactersIn wsX1_charactersIn { frames := 0, cells := 0, slots := 0, locals := 0 } [.long x] (fun _ => True) (.int (nI (chN x 0 8))) := by
  refine q_pm (cc := cX1_charactersIn) (maxL := 6) (ret := (some .int)) (by decide) rfl (Nat.le_of_ble_eq_true rfl) ?_
  intro p e s m args below meth c ls hx hb hml hown hts hr hlk _ hl
  have hl : lv_has ls 6 [(0, .long x)] := hl
  refine lv_lload_n hx hb dX1_charactersIn_0 rfl (lv_at hl 0 rfl) ?_
  refine lv_lstore_n (lv' := [(2, .long x), (0, .long x)]) hx hb dX1_charactersIn_1 rfl hl (by decide) rfl (fun ls hl => ?_)
  refine lv_iconst (v := 0) hx hb dX1_charactersIn_2 (by decide) ?_
  refine lv_istore (lv' := [(4, .int 0), (2, .long x), (0, .long x)]) hx hb dX1_charactersIn_3 hl (by decide) rfl (fun ls hl => ?_)
  have L_5 : ∀ (fu i5 : Nat) (y2_5 : Int64), y2_5 = sh8 x i5 → (chN x i5 (8 - i5) = chN x 0 8) → i5 ≤ 8 → 8 < i5 + fu → ∀ ls : Array Slot, lv_has ls 6 [(4, .int (nI i5)), (2, .long y2_5), (0, .long x)] → W p l e { frames := 0, cells := 0, slots := 0, locals := 0 } s m args below meth c s.heap [] 0 0 (MQ below (k2_QcV (.int (nI (chN x 0 8)))) args s 0 0 (fun _ => False)) (F0 m 5 ls []) := by
    intro fu
    induction fu with
    | zero => intro i5 y2_5 ey2_5 hf hi_i5 hn_i5; exact absurd hn_i5 (by omega)
    | succ fu ih_i5 =>
      intro i5 y2_5 ey2_5 hf hi_i5 hn_i5 ls hl
      subst ey2_5
      refine lv_iload hx hb dX1_charactersIn_5 (lv_at hl 0 rfl) ?_
      refine lv_bipush (v := 8) hx hb dX1_charactersIn_7 (by decide) ?_
      refine lv_icmp_ge (tgt := 57) hx hb dX1_charactersIn_9 (by decide) (fun c_9 => ?_) (fun c_9 => ?_)
      · skip
        have e_9 : i5 = 8 := q_ge_T (by omega) hi_i5 c_9
        subst e_9
        rw [sh8_8] at hl
        have hz := ch_0 (f := 0) (sh8_8 x)
        refine lv_lload_n hx hb dX1_charactersIn_57 rfl (lv_at hl 1 rfl) ?_
        refine lv_lconst (v := 0) hx hb dX1_charactersIn_58 (by decide) ?_
        refine W.lcmp hx hb dX1_charactersIn_59 ?_
        refine lv_if_ne (tgt := 68) hx hb dX1_charactersIn_60 (by decide) (fun c_60 => ?_) (fun c_60 => ?_)
        · skip
          exact absurd c_60 (by decide)
        · skip
          refine lv_iload hx hb dX1_charactersIn_63 (lv_at hl 0 rfl) ?_
          refine lv_goto (tgt := 69) hx hb dX1_charactersIn_65 (by decide) ?_
          exact q_iret hx hb hr hlk dX1_charactersIn_69 (by first | rw [← hf, ch_0 c_60] | rw [← hf, hz] | (rw [← hf, show 8 - i5 = (8 - (i5 + 1)) + 1 from by omega, ch_b c_60 (ch_ok0 c_19)]; first | done | rfl) | (exact absurd rfl c_60))
      · skip
        have lt_i5 : i5 < 8 := q_ge_F (by omega) hi_i5 c_9
        refine lv_lload_n hx hb dX1_charactersIn_12 rfl (lv_at hl 1 rfl) ?_
        refine lv_ldc2 (v := 255) hx hb hown (hts (.constantLong RX1 15 (255)) (by decide +kernel)) dX1_charactersIn_13 ?_
        refine lv_land hx hb dX1_charactersIn_16 ?_
        refine lv_lconst (v := 0) hx hb dX1_charactersIn_17 (by decide) ?_
        refine W.lcmp hx hb dX1_charactersIn_18 ?_
        refine lv_if_eq (tgt := 57) hx hb dX1_charactersIn_19 (by decide) (fun c_19 => ?_) (fun c_19 => ?_)
        · skip
          have c_19 := q_cmp_e c_19
          refine lv_lload_n hx hb dX1_charactersIn_57 rfl (lv_at hl 1 rfl) ?_
          refine lv_lconst (v := 0) hx hb dX1_charactersIn_58 (by decide) ?_
          refine W.lcmp hx hb dX1_charactersIn_59 ?_
          refine lv_if_ne (tgt := 68) hx hb dX1_charactersIn_60 (by decide) (fun c_60 => ?_) (fun c_60 => ?_)
          · skip
            have c_60 := q_cmp_n c_60
            refine lv_iconst (v := 0) hx hb dX1_charactersIn_68 (by decide) ?_
            exact q_iret hx hb hr hlk dX1_charactersIn_69 (by first | rw [← hf, ch_0 c_60] | rw [← hf, hz] | (rw [← hf, show 8 - i5 = (8 - (i5 + 1)) + 1 from by omega, ch_b c_60 (ch_ok0 c_19)]; first | done | rfl) | (exact absurd rfl c_60))
          · skip
            have c_60 := q_cmp_e c_60
            refine lv_iload hx hb dX1_charactersIn_63 (lv_at hl 0 rfl) ?_
            refine lv_goto (tgt := 69) hx hb dX1_charactersIn_65 (by decide) ?_
            exact q_iret hx hb hr hlk dX1_charactersIn_69 (by first | rw [← hf, ch_0 c_60] | rw [← hf, hz] | (rw [← hf, show 8 - i5 = (8 - (i5 + 1)) + 1 from by omega, ch_b c_60 (ch_ok0 c_19)]; first | done | rfl) | (exact absurd rfl c_60))
        · skip
          have c_19 := q_cmp_n c_19
          refine lv_lload_n hx hb dX1_charactersIn_22 rfl (lv_at hl 1 rfl) ?_
          refine lv_ldc2 (v := 255) hx hb hown (hts (.constantLong RX1 15 (255)) (by decide +kernel)) dX1_charactersIn_23 ?_
          refine lv_land hx hb dX1_charactersIn_26 ?_
          refine lv_l2i (v := ((sh8 x i5) &&& 255).toInt32) hx hb dX1_charactersIn_27 rfl ?_
          refine lv_istore (lv' := [(5, .int (((sh8 x i5) &&& 255).toInt32)), (4, .int (nI i5)), (2, .long (sh8 x i5)), (0, .long x)]) hx hb dX1_charactersIn_28 hl (by decide) rfl (fun ls hl => ?_)
          refine lv_iload hx hb dX1_charactersIn_30 (lv_at hl 0 rfl) ?_
          refine lv_bipush (v := 33) hx hb dX1_charactersIn_32 (by decide) ?_
          refine lv_icmp_lt (tgt := 44) hx hb dX1_charactersIn_34 (by decide) (fun c_34 => ?_) (fun c_34 => ?_)
          · skip
            refine lv_iconst (v := 0) hx hb dX1_charactersIn_44 (by decide) ?_
            exact q_iret hx hb hr hlk dX1_charactersIn_45 (by first | (rw [← hf, show 8 - i5 = (8 - (i5 + 1)) + 1 from by omega, ch_b (ch_nz c_19) (chok_1 c_34)]; first | done | rfl) | (rw [← hf, show 8 - i5 = (8 - (i5 + 1)) + 1 from by omega, ch_b (ch_nz c_19) (chok_2 c_41)]; first | done | rfl))
          · skip
            refine lv_iload hx hb dX1_charactersIn_37 (lv_at hl 0 rfl) ?_
            refine lv_bipush (v := 126) hx hb dX1_charactersIn_39 (by decide) ?_
            refine lv_icmp_le (tgt := 46) hx hb dX1_charactersIn_41 (by decide) (fun c_41 => ?_) (fun c_41 => ?_)
            · skip
              refine lv_lload_n hx hb dX1_charactersIn_46 rfl (lv_at hl 2 rfl) ?_
              refine lv_bipush (v := 8) hx hb dX1_charactersIn_47 (by decide) ?_
              refine lv_lushr (v := ((sh8 x i5).toUInt64 >>> ((8 : Int32).toInt64.toUInt64 &&& Int64.toUInt64 63)).toInt64) hx hb dX1_charactersIn_49 rfl ?_
              refine lv_lstore_n (lv' := [(2, .long (((sh8 x i5).toUInt64 >>> ((8 : Int32).toInt64.toUInt64 &&& Int64.toUInt64 63)).toInt64)), (5, .int (((sh8 x i5) &&& 255).toInt32)), (4, .int (nI i5)), (0, .long x)]) hx hb dX1_charactersIn_50 rfl hl (by decide) rfl (fun ls hl => ?_)
              refine lv_iinc (v := nI (i5 + 1)) (lv' := [(4, .int (nI (i5 + 1))), (2, .long (((sh8 x i5).toUInt64 >>> ((8 : Int32).toInt64.toUInt64 &&& Int64.toUInt64 63)).toInt64)), (5, .int (((sh8 x i5) &&& 255).toInt32)), (0, .long x)]) hx hb dX1_charactersIn_51 hl (k := 2) rfl (nI_1 _) (by decide) rfl (fun ls hl => ?_)
              refine lv_goto (tgt := 5) hx hb dX1_charactersIn_54 (by decide) ?_
              exact ih_i5 (i5 + 1) (((sh8 x i5).toUInt64 >>> ((8 : Int32).toInt64.toUInt64 &&& Int64.toUInt64 63)).toInt64) (rfl) (by rw [← hf, show 8 - i5 = (8 - (i5 + 1)) + 1 from by omega, ch_s (ch_nz c_19) (chok_3 c_34 c_41)]) lt_i5 (by omega) ls (lv_sub hl [0, 1, 3] rfl)
            · skip
              refine lv_iconst (v := 0) hx hb dX1_charactersIn_44 (by decide) ?_
              exact q_iret hx hb hr hlk dX1_charactersIn_45 (by first | (rw [← hf, show 8 - i5 = (8 - (i5 + 1)) + 1 from by omega, ch_b (ch_nz c_19) (chok_1 c_34)]; first | done | rfl) | (rw [← hf, show 8 - i5 = (8 - (i5 + 1)) + 1 from by omega, ch_b (ch_nz c_19) (chok_2 c_41)]; first | done | rfl))
  exact L_5 (8 + 1) 0 x (rfl) (rfl) (Nat.zero_le _) (by omega) ls (lv_sub hl [0, 1, 2] rfl)
