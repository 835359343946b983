/-! what holds at each step of the law; what its questions on sheets come to -/
def q_iv (K : Nat) (V : q_CV) : Prop := q_ok K (v_now V) ∧ q_px (v_now V) ∧ v_pl V ≤ 80 ∧ v_hl V ≤ 6 ∧ v_nxt V < 6
theorem w_ord {V : q_CV} {K p : Nat} (ho : q_ok K (v_now V)) (hK : K ≤ 512) (h0 : ¬ nI p = 0) (hp : p < s_n (v_now V)) : ¬ oftR V (atR V (nI p)) 1 < oftR V (atR V (nI p - 1)) 1 := by
  have hn := ok_n ho
  have hp0 : 0 < p := by
    rcases Nat.eq_zero_or_pos p with z | z
    · exact absurd (by rw [z]; rfl) h0
    · exact z
  obtain ⟨t, t1, t2, t3⟩ := w_at ho hK hp
  obtain ⟨u, u1, u2, u3⟩ := w_at ho hK (p := p - 1) (by omega)
  have e : nI p - 1 = nI (p - 1) := pk_sub (b := 1) hp0
  have hr := w_rnk ho hK (t := t) (u := u) t1 u1 (by omega)
  have hl := q_cnt_le (fun o => aheS (v_now V) o t) (s_n (v_now V))
  rw [e, t3, u3, w_o1 hn t1, w_o1 hn u1]
  exact nI_nlt hr (by unfold rnkS; omega)
theorem w_mgeV {V : q_CV} {K t : Nat} (ho : q_ok K (v_now V)) (hK : K ≤ 512) (ht : t < s_n (v_now V)) : ¬ mosR V (nI t) < oftR V (nI t) 0 := by
  have hn := ok_n ho
  rw [w_mo hn ht, w_o0 hn ht]
  exact w_mge ho hK (by omega)
theorem w_mltV {V : q_CV} {K t o : Nat} (ho : q_ok K (v_now V)) (hK : K ≤ 512) (ht : t < s_n (v_now V)) (h2 : o < s_n (v_now V)) : (mosR V (nI t) < oftR V (nI o) 0) ↔ ¬ scoS (v_now V) o ≤ gscS (v_now V) t := by
  have hn := ok_n ho
  rw [w_mo hn ht, w_o0 hn h2]
  exact w_mlt ho hK (by omega) (by omega)
theorem w_no4V {V : q_CV} {t : Nat} (hn : s_n (v_now V) ≤ 10) (ht : t < s_n (v_now V)) (h : ¬ oftR V (nI t) 1 ≤ 3) : oftR V (nI t) 2 = 0 := by
  rw [w_o1 hn ht] at h
  rw [w_o2 hn ht]
  have hl := q_cnt_le (fun o => aheS (v_now V) o t) (s_n (v_now V))
  refine w_no4 hn (by omega) ?_
  rcases Nat.lt_or_ge 3 (rnkS (v_now V) t) with c | c
  · exact c
  · exact absurd (nI_le (b := 3) c (by decide)) h
/-! far and ahead -/
theorem w_gue {S : q_St} {K : Nat} (ho : q_ok K S) {t : Nat} (ht : t < 10) : (0 ≤ s_gue S t → ¬ s_gue S t = -6) ∧ (¬ 0 ≤ s_gue S t → s_gue S t = -6) := by
  rcases ok_gue ho ht with e | ⟨v, hv, e⟩
  · exact ⟨fun q => absurd q (by rw [e]; decide), fun _ => e⟩
  · exact ⟨fun _ => (by rw [e]; exact nI_6 (by omega)), fun q => absurd (by rw [e]; exact nI_pos' (by omega)) q⟩
theorem w_tru {S : q_St} {K : Nat} (ho : q_ok K S) : (s_tru S < 0 → s_tru S = -6) ∧ (¬ s_tru S < 0 → ¬ s_tru S = -6) := by
  rcases ok_tru ho with e | ⟨v, hv, e⟩
  · exact ⟨fun _ => e, fun q => absurd (by rw [e]; decide) q⟩
  · exact ⟨fun q => absurd q (by rw [e]; exact nI_pos (by omega)), fun _ => (by rw [e]; exact nI_6 (by omega))⟩
theorem w_ah0 {S : q_St} {K : Nat} (ho : q_ok K S) (hK : K ≤ 512) {t o : Nat} (ht : t < 10) (h2 : o < 10) (h : scoS S t = scoS S o) (h3 : s_tru S < 0) : aheS S t o = false := by
  have e := (w_tru ho).1 h3
  rw [ahe_3 ho hK ht h2 (by rw [h]; exact Int32.lt_irrefl) h, dist_n e, dist_n e, decide_eq_true (Int32.le_refl _)]; rfl
theorem w_ah1 {S : q_St} {K : Nat} (ho : q_ok K S) (hK : K ≤ 512) {t o : Nat} (ht : t < 10) (h2 : o < 10) (h : scoS S t = scoS S o) (h3 : ¬ s_tru S < 0) (h4 : farS S o ≤ farS S t) : aheS S t o = false := by
  rw [ahe_3 ho hK ht h2 (by rw [h]; exact Int32.lt_irrefl) h, decide_eq_true ((dist_lt ho ((w_tru ho).2 h3) ht h2).mp h4)]; rfl
theorem w_ah2 {S : q_St} {K : Nat} (ho : q_ok K S) (hK : K ≤ 512) {t o : Nat} (ht : t < 10) (h2 : o < 10) (h : scoS S t = scoS S o) (h3 : ¬ s_tru S < 0) (h4 : ¬ farS S o ≤ farS S t) : aheS S t o = true := by
  rw [ahe_3 ho hK ht h2 (by rw [h]; exact Int32.lt_irrefl) h, decide_eq_false fun q => h4 ((dist_lt ho ((w_tru ho).2 h3) ht h2).mpr q)]; rfl
/-! a sheet -/
def w_an (S : q_St) (t r : Nat) : Int32 := if hasS S t r = true then nI (ansN S t r) else -1
def w_mk (S : q_St) (t r : Nat) : Int32 := if hasS S t r = true then (if tldS S t r = true then s_mar S (t * 8 + r) + 100 else -6) else -1
def w_tr (S : q_St) (t r : Nat) : Int32 := if hasS S t r = true then (if isOp S r = true then -6 else truM S t r + 100) else -1
def w_ti (S : q_St) (t r : Nat) : Int32 := if s_jok S t = nI r then 2 else 1
theorem w_anV {V : q_CV} {t r : Nat} (hn : s_n (v_now V) ≤ 10) (ht : t < s_n (v_now V)) (hr : r < 8) : sheR V (nI t) (nI r) 4 = w_an (v_now V) t r := by
  unfold w_an
  by_cases c : hasS (v_now V) t r = true
  · rw [w_s4 hn ht hr c, if_pos c]
  · rw [w_sn _ hn ht hr (bool_f c), if_neg c]
theorem w_mkV {V : q_CV} {t r : Nat} (hn : s_n (v_now V) ≤ 10) (ht : t < s_n (v_now V)) (hr : r < 8) : sheR V (nI t) (nI r) 0 = w_mk (v_now V) t r := by
  unfold w_mk
  by_cases c : hasS (v_now V) t r = true
  · rw [w_s0 hn ht hr c, if_pos c]
  · rw [w_sn _ hn ht hr (bool_f c), if_neg c]
theorem w_trV {V : q_CV} {t r : Nat} (hn : s_n (v_now V) ≤ 10) (ht : t < s_n (v_now V)) (hr : r < 8) : sheR V (nI t) (nI r) 3 = w_tr (v_now V) t r := by
  unfold w_tr
  by_cases c : hasS (v_now V) t r = true
  · rw [w_s3 hn ht hr c, if_pos c]
  · rw [w_sn _ hn ht hr (bool_f c), if_neg c]
theorem w_an1 {S : q_St} {t r : Nat} (h : 0 ≤ w_an S t r) : hasS S t r = true := by
  unfold w_an at h
  by_cases c : hasS S t r = true
  · exact c
  · rw [if_neg c] at h; exact absurd h (by decide)
theorem w_an0 {S : q_St} {t r : Nat} (h : ¬ 0 ≤ w_an S t r) : hasS S t r = false := by
  refine bool_f fun c => h ?_
  unfold w_an
  rw [if_pos c]
  have := q_cnt_le (ans1 (s_she S (t * 8 + r))) 10
  exact nI_pos' (by unfold ansN; omega)
theorem w_an1' {S : q_St} {t r : Nat} (h : ¬ w_an S t r < 0) : hasS S t r = true := w_an1 (Int32.not_lt.mp h)
theorem w_an0' {S : q_St} {t r : Nat} (h : w_an S t r < 0) : hasS S t r = false := w_an0 (Int32.not_le.mpr h)
theorem w_m100 {x : Int32} {a b : Int} (h : rgI x a b) (h1 : -1000000 ≤ a) (h2 : b ≤ 1000000) : (x + 100).toInt = x.toInt + 100 := by
  have := (rg_add h (show rgI (100 : Int32) 100 100 from ⟨by decide, by decide⟩) (by omega) (by omega)).2
  have e : (100 : Int32).toInt = 100 := by decide
  omega
theorem w_i0 {x : Int32} {z : Int} (h : x.toInt = z) : (0 ≤ x ↔ 0 ≤ z) ∧ (x < 0 ↔ z < 0) := by
  have e : (0 : Int32).toInt = 0 := by decide
  constructor
  · rw [Int32.le_iff_toInt_le, e, h]
  · rw [Int32.lt_iff_toInt_lt, e, h]
theorem w_mk1 {S : q_St} {K : Nat} (ho : q_ok K S) {t r : Nat} (ht : t < 10) (hr : r < 8) : (w_mk S t r < 0 ↔ tldS S t r = false) ∧ (0 ≤ w_mk S t r ↔ tldS S t r = true) := by
  unfold w_mk
  cases c : tldS S t r with
  | false =>
    by_cases d : hasS S t r = true
    · rw [if_pos d, if_neg (by decide)]
      exact ⟨⟨fun _ => rfl, fun _ => by decide⟩, ⟨fun q => absurd q (by decide), fun q => (by cases q)⟩⟩
    · rw [if_neg d]
      exact ⟨⟨fun _ => rfl, fun _ => by decide⟩, ⟨fun q => absurd q (by decide), fun q => (by cases q)⟩⟩
  | true =>
    have hm := ok_mr ho ht hr c
    have e := w_i0 (w_m100 (x := s_mar S (t * 8 + r)) hm (by decide) (by decide))
    rw [if_pos (ok_th ho ht hr c), if_pos rfl]
    refine ⟨⟨fun q => absurd (e.2.mp q) (by omega), fun q => (by cases q)⟩, ⟨fun _ => rfl, fun _ => e.1.mpr (by omega)⟩⟩
theorem w_mkn {S : q_St} {t r : Nat} (h : hasS S t r = false) : w_mk S t r = -1 := by
  unfold w_mk
  rw [h, if_neg (by decide)]
theorem w_pt0 {S : q_St} {K : Nat} (ho : q_ok K S) {t r : Nat} (ht : t < 10) (hr : r < 8) (h : ¬ 0 ≤ w_an S t r) : (0 : Int32) = ptsS S t r := by
  have h1 := ok_ntl ho ht hr (w_an0 h)
  have d : s_mkr S (t * 8 + r) = -6 := Classical.byContradiction fun q => by rw [tld_iff.mpr q] at h1; cases h1
  exact (if_pos d).symm
theorem w_pt1 {V : q_CV} {t r : Nat} (hn : s_n (v_now V) ≤ 10) (ht : t < s_n (v_now V)) (hr : r < 8) (h : 0 ≤ w_an (v_now V) t r) : sheR V (nI t) (nI r) 2 - 100 = ptsS (v_now V) t r := by
  rw [w_s2 hn ht hr (w_an1 h), Int32.add_sub_cancel]
theorem w_hb {V : q_CV} {t r : Nat} (hn : s_n (v_now V) ≤ 10) (ht : t < s_n (v_now V)) (hr : r < 8) : (ofrR V (nI r) 1 >>> (nI t &&& 31)) &&& 1 = bI (hasS (v_now V) t r) := by
  rw [w_r1 hr]
  exact w_bit (fun t => hasS (v_now V) t r) _ ht hn
theorem w_jb {V : q_CV} {t r : Nat} (hn : s_n (v_now V) ≤ 10) (ht : t < s_n (v_now V)) (hr : r < 8) : (ofrR V (nI r) 2 >>> (nI t &&& 31)) &&& 1 = bI (decide (s_jok (v_now V) t = nI r)) := by
  rw [w_r2 hr]
  exact w_bit (fun t => decide (s_jok (v_now V) t = nI r)) _ ht hn
theorem w_tb {V : q_CV} {t r : Nat} (hn : s_n (v_now V) ≤ 10) (ht : t < s_n (v_now V)) (hr : r < 8) : (ofrR V (nI r) 3 >>> (nI t &&& 31)) &&& 1 = bI (tldS (v_now V) t r) := by
  rw [w_r3 hr]
  exact w_bit (fun t => tldS (v_now V) t r) _ ht hn
theorem w_lb {V : q_CV} {K t r : Nat} (ho : q_ok K (v_now V)) (ht : t < s_n (v_now V)) (hr : r < 8) : (ofrR V (nI r) 4 >>> (nI t &&& 31)) &&& 1 = bI (lokS (v_now V) t r) := by
  rw [w_r4 hr, ok_loo ho hr]
  exact w_bit (fun t => lokS (v_now V) t r) _ ht (ok_n ho)
theorem w_w0 {S : q_St} {t r : Nat} (h : tldS S t r = false) : wroS S t r = false := by unfold wroS; rw [h]; rfl
theorem w_w1 {S : q_St} {t r : Nat} (h : lokS S t r = true) : wroS S t r = false := by unfold wroS; rw [h, Bool.not_true, Bool.and_false, Bool.false_and]
theorem w_mt {S : q_St} {K : Nat} (ho : q_ok K S) {t r : Nat} (ht : t < 10) (hr : r < 8) (h : tldS S t r = true) : w_mk S t r = s_mar S (t * 8 + r) + 100 ∧ w_tr S t r = truM S t r + 100 := by
  have h1 := ok_th ho ht hr h
  have h2 := ok_to ho ht hr h
  unfold w_mk w_tr
  rw [if_pos h1, if_pos h, if_pos h1, h2, if_neg (by decide)]
  exact ⟨rfl, rfl⟩
theorem w_a100 {x y : Int32} : x + 100 = y + 100 ↔ x = y :=
  ⟨fun q => by rw [← Int32.add_sub_cancel (a := x) (b := 100), q, Int32.add_sub_cancel], fun q => by rw [q]⟩
theorem w_w2 {S : q_St} {K : Nat} (ho : q_ok K S) {t r : Nat} (ht : t < 10) (hr : r < 8) (h : tldS S t r = true) (c : w_mk S t r = w_tr S t r) : wroS S t r = false := by
  obtain ⟨e1, e2⟩ := w_mt ho ht hr h
  rw [e1, e2, w_a100] at c
  unfold wroS
  rw [decide_eq_false (fun q => q c), Bool.and_false]
theorem w_w3 {S : q_St} {K : Nat} (ho : q_ok K S) {t r : Nat} (ht : t < 10) (hr : r < 8) (h : tldS S t r = true) (h2 : lokS S t r = false) (c : ¬ w_mk S t r = w_tr S t r) : wroS S t r = true := by
  obtain ⟨e1, e2⟩ := w_mt ho ht hr h
  rw [e1, e2, w_a100] at c
  unfold wroS
  rw [h, h2, decide_eq_true c]; rfl
theorem w_p1 {S : q_St} {K : Nat} (ho : q_ok K S) {t r : Nat} (ht : t < 10) (hr : r < 8) (h : tldS S t r = true) : w_ti S t r * (w_mk S t r - 100) = ptsS S t r := by
  rw [(w_mt ho ht hr h).1, Int32.add_sub_cancel]
  have e : mkvS S t r = s_mar S (t * 8 + r) := if_pos h
  unfold w_ti
  by_cases c : s_jok S t = nI r
  · rw [if_pos c, ← pts_2 c, e, Int32.mul_comm]
  · rw [if_neg c, ← pts_1 c, e, Int32.mul_comm]
theorem w_p0 {S : q_St} {t r : Nat} (h : tldS S t r = false) : (0 : Int32) = ptsS S t r := by
  have d : s_mkr S (t * 8 + r) = -6 := Classical.byContradiction fun q => by rw [tld_iff.mpr q] at h; cases h
  exact (if_pos d).symm
theorem w_sc0 (S : q_St) (t : Nat) : 1000 - s_set S 3 * s_fin S t = q_acc (fineS S t) (ptsS S t) 0 + 1000 := by
  show 1000 - s_set S 3 * s_fin S t = -(s_set S 3) * s_fin S t + 1000
  rw [Int32.neg_mul, Int32.sub_eq_add_neg, Int32.add_comm]
theorem w_sc1 (a p : Int32) : a + 1000 + p = a + p + 1000 := by rw [Int32.add_assoc, Int32.add_comm 1000 p, ← Int32.add_assoc]
theorem w_wr (f : Nat → Bool) (A r : Nat) : nI (A + q_cnt f r) + (if f r = true then 1 else 0) = nI (A + q_cnt f (r + 1)) := by
  show _ = nI (A + (q_cnt f r + (if f r = true then 1 else 0)))
  by_cases c : f r = true
  · rw [if_pos c, if_pos c, nI_1]; rfl
  · rw [if_neg c, if_neg c, Int32.add_zero]; rfl
