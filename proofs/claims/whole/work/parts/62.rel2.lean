/-! look keeps the relation -/
theorem tmk_rg {S : q_St} {K : Nat} (ho : q_ok K S) (w key : Int64) (k : Nat) : rgI (tmk w key (s_set S 2) k) (-2) 1 := by
  obtain ⟨v, hv, e⟩ := ok_s2 ho
  unfold tmk
  rw [e]
  split
  · exact ⟨by decide, by decide⟩
  · split
    · exact ⟨by decide, by decide⟩
    · have : (-nI v).toInt = -(v : Int) := sb_negT (by omega)
      unfold rgI
      rw [this]
      omega
theorem truM_rg {S : q_St} {K : Nat} (ho : q_ok K S) (t r : Nat) : -20 ≤ (truM S t r).toInt ∧ (truM S t r).toInt ≤ 10 :=
  rg_acc (a := 0) (lo := 0) (hi := 0) (l := -2) (h := 1) (by unfold rgI; decide) (by decide) (by decide) 10 (fun k _ => tmk_rg ho _ _ k) (by decide) (by decide)
theorem up_c {f : Nat → Int32} {j k : Nat} {a b : Int32} (h : ¬ j = k) : upd (upd f j a) k b = upd (upd f k b) j a := by
  funext i
  unfold upd
  by_cases c : i = k
  · subst c
    rw [if_pos rfl, if_neg (fun q => h q.symm), if_pos rfl]
  · rw [if_neg c]
    split
    · rfl
    · rfl
theorem up_s {f : Nat → Int32} {j : Nat} {v : Int32} (h : f j = v) : upd f j v = f := by
  funext i
  unfold upd
  by_cases c : i = j
  · rw [if_pos c, c, h]
  · rw [if_neg c]
theorem ok_loku {S : q_St} {K : Nat} (ho : q_ok K S) {t r : Nat} (ht : t < s_n S) (hr : r < 8) (hT : tldS S t r = true) : q_ok K (u_loo S (upd (s_loo S) r (s_loo S r ||| ((1 : Int32) <<< (nI t &&& 31))))) := by
  refine ⟨?_, ?_, ?_, ?_, ?_, ?_, ?_, ?_, ?_, ?_, ?_, ?_, ?_⟩
  · exact ho.1
  · exact ho.2.1
  · exact ho.2.2.1
  · intro u q hu hq h
    have hn := ok_n ho
    by_cases e : q = r
    · subst e
      rw [lok_up (by omega) hu] at h
      by_cases e2 : u = t
      · subst e2; exact hT
      · rw [decide_eq_false e2, Bool.or_false] at h
        exact ok_lt ho hu hq h
    · rw [lok_un e] at h
      exact ok_lt ho hu hq h
  · intro q hq
    have hn := ok_n ho
    by_cases e : q = r
    · subst e
      show upd (s_loo S) q _ q = q_or _ (s_n S)
      rw [up_eq, ok_loo ho hq, q_or_b _ t _ ht]
      refine q_or_c (s_n S) fun u hu => ?_
      have e3 := lok_up (S := S) (r := q) (t := t) (u := u) (by omega) (by omega)
      rw [ok_loo ho hq, q_or_b _ t _ ht] at e3
      exact e3.symm
    · show upd (s_loo S) r _ q = q_or _ (s_n S)
      rw [up_ne e, ok_loo ho hq]
      exact q_or_c (s_n S) fun u _ => (lok_un e).symm
  · exact ho.2.2.2.2.2.1
  · exact ho.2.2.2.2.2.2.1
  · exact ho.2.2.2.2.2.2.2.1
  · exact ho.2.2.2.2.2.2.2.2.1
  · exact ho.2.2.2.2.2.2.2.2.2.1
  · exact ho.2.2.2.2.2.2.2.2.2.2.1
  · exact ho.2.2.2.2.2.2.2.2.2.2.2.1
  · exact ho.2.2.2.2.2.2.2.2.2.2.2.2

theorem cp_lokT {S : q_St} {K : Nat} {f : Nat → Int32} (hc : q_cp S f) (ho : q_ok K S) {t r : Nat} (ht : t < s_n S) (hr : r < 8) (hT : tldS S t r = true) (hL : lokS S t r = false) : q_cp (lokT S t r) (upd (upd (upd (upd f (136 + 15 * (t * 8 + r) + 2) (truM S t r)) (136 + 15 * (t * 8 + r) + 4) 1) (96 + 4 * tN (s_mkr S (t * 8 + r)) + 2) (s_fin S (tN (s_mkr S (t * 8 + r))) + bI (wroS S t r))) 7 (looA S + 1)) ∧ q_ok (K + 1) (lokT S t r) := by
  have hn := ok_n ho
  have htx : t < 10 := by omega
  obtain ⟨m, hm, em⟩ := ok_mk ho htx hr hT
  have cm : tN (nI m) = m := tN_n (by omega)
  obtain ⟨j, hj, ej⟩ := ok_fin ho (t := m) (by omega)
  have hg := truM_rg ho t r
  have h1 : q_cp (lokF S t r) (upd f (96 + 4 * m + 2) (s_fin S m + bI (wroS S t r))) ∧ q_ok (K + 1) (lokF S t r) ∧ s_mar (lokF S t r) = s_mar S ∧ s_loo (lokF S t r) = s_loo S ∧ s_n (lokF S t r) = s_n S ∧ s_mkr (lokF S t r) = s_mkr S := by
    unfold lokF
    rw [em, cm]
    cases c : wroS S t r with
    | true =>
      rw [if_pos rfl, bI_t]
      refine ⟨cp_finu hc (by omega) _, ?_, rfl, rfl, rfl, rfl⟩
      have e : s_fin S m + 1 = nI (j + 1) := by rw [ej, nI_1]
      rw [e]
      exact ok_finu ho (by omega) (by omega)
    | false =>
      rw [if_neg (by decide), bI_f, Int32.add_zero]
      exact ⟨cp_e (up_s (cp_fin hc (by omega))) hc, ok_up (Nat.le_succ K) ho, rfl, rfl, rfl, rfl⟩
  rw [em, cm]
  obtain ⟨c1, o1, g1, g2, g3, g4⟩ := h1
  have c2 := cp_mru c1 htx hr (truM S t r)
  have o2 := ok_mru o1 htx hr hg.1 hg.2
  have hT2 : tldS (u_mar (lokF S t r) (upd (s_mar (lokF S t r)) (t * 8 + r) (truM S t r))) t r = true := by
    show decide (¬ s_mkr (lokF S t r) (t * 8 + r) = -6) = true
    rw [g4]; exact hT
  have hL2 : lokS (u_mar (lokF S t r) (upd (s_mar (lokF S t r)) (t * 8 + r) (truM S t r))) t r = false := by
    show decide (¬ (s_loo (lokF S t r) r &&& ((1 : Int32) <<< (nI t &&& 31))) = 0) = false
    rw [g2]; exact hL
  have hA2 : looA (u_mar (lokF S t r) (upd (s_mar (lokF S t r)) (t * 8 + r) (truM S t r))) = looA S := by
    show q_acc 0 (fun r_1 => popc (s_loo (lokF S t r) r_1)) 8 = q_acc 0 (fun r_1 => popc (s_loo S r_1)) 8
    rw [g2]
  have ht2 : t < s_n (u_mar (lokF S t r) (upd (s_mar (lokF S t r)) (t * 8 + r) (truM S t r))) := by
    show t < s_n (lokF S t r)
    rw [g3]; exact ht
  have c3 := cp_loku c2 htx hr (looA S + 1) (by rw [looA_up o2 ht2 hr hL2, hA2])
  have o3 := ok_loku o2 ht2 hr hT2
  have eT : lokT S t r = u_loo (u_mar (lokF S t r) (upd (s_mar (lokF S t r)) (t * 8 + r) (truM S t r))) (upd (s_loo (u_mar (lokF S t r) (upd (s_mar (lokF S t r)) (t * 8 + r) (truM S t r)))) r (s_loo (u_mar (lokF S t r) (upd (s_mar (lokF S t r)) (t * 8 + r) (truM S t r))) r ||| ((1 : Int32) <<< (nI t &&& 31)))) := by
    show u_loo (u_mar (lokF S t r) (upd (s_mar S) (t * 8 + r) (truM S t r))) (upd (s_loo S) r (s_loo S r ||| ((1 : Int32) <<< (nI t &&& 31)))) = u_loo (u_mar (lokF S t r) (upd (s_mar (lokF S t r)) (t * 8 + r) (truM S t r))) (upd (s_loo (lokF S t r)) r (s_loo (lokF S t r) r ||| ((1 : Int32) <<< (nI t &&& 31))))
    rw [g1, g2]
  rw [← eT] at c3 o3
  refine ⟨cp_e ?_ c3, o3⟩
  congr 1
  rw [up_c (j := 136 + 15 * (t * 8 + r) + 4) (k := 96 + 4 * m + 2) (by omega)]
  congr 1
  exact up_c (by omega)
theorem rl_lok {K : Nat} {V : q_CV} {M : q_MV} (h : q_rel K V M) (x y : Int32) : q_rel (K + 1) (lokV V x y) (lokM M V x y) := by
  have hc := rl_c h
  have ho := h.1.2
  have hn := ok_n ho
  by_cases e : lokE V x y = 0
  · rw [show lokV V x y = _ from if_pos e, show lokM M V x y = _ from if_pos e]
    obtain ⟨e1, e2, e3, e4⟩ := lokE_0 e
    obtain ⟨t, ht, htx, rfl⟩ := isTm_of hn e1
    have ct : tN (nI t) = t := tN_n (by omega)
    obtain ⟨r, hr, rfl⟩ := isRd_of e2
    have cr : tN (nI r) = r := tN_n (by omega)
    rw [ct, cr] at e3 e4
    rw [ct, cr]
    have k := cp_lokT hc ho ht hr e3 e4
    exact rl_w h k.1 k.2
  · rw [show lokV V x y = _ from if_neg e, show lokM M V x y = _ from if_neg e]
    exact rl_up h
/-! places are unique: the reference's last is the class's first -/
theorem q_cnt_m {f g : Nat → Bool} : ∀ n : Nat, (∀ u, u < n → f u = true → g u = true) → q_cnt f n ≤ q_cnt g n
  | 0, _ => Nat.le_refl 0
  | n + 1, h => by
    have ih := q_cnt_m n fun u hu => h u (by omega)
    have h1 := h n (by omega)
    show q_cnt f n + (if f n = true then 1 else 0) ≤ q_cnt g n + (if g n = true then 1 else 0)
    by_cases c : f n = true
    · rw [if_pos c, if_pos (h1 c)]; omega
    · rw [if_neg c]; omega
theorem q_cnt_s {f g : Nat → Bool} {k : Nat} (h1 : f k = false) (h2 : g k = true) : ∀ n : Nat, k < n → (∀ u, u < n → f u = true → g u = true) → q_cnt f n < q_cnt g n
  | 0, h, _ => absurd h (by omega)
  | n + 1, hk, h => by
    show q_cnt f n + (if f n = true then 1 else 0) < q_cnt g n + (if g n = true then 1 else 0)
    by_cases e : k = n
    · subst e
      have ih := q_cnt_m k fun u hu => h u (by omega)
      rw [h2, h1, if_pos rfl, if_neg (by decide)]; omega
    · have ih := q_cnt_s h1 h2 n (by omega) fun u hu => h u (by omega)
      have h3 := h n (by omega)
      by_cases c : f n = true
      · rw [if_pos c, if_pos (h3 c)]; omega
      · rw [if_neg c]; omega
theorem q_cnt_o {f g : Nat → Bool} : ∀ n : Nat, (∀ u, u < n → f u = true → g u = false) → q_cnt (fun u => f u || g u) n = q_cnt f n + q_cnt g n
  | 0, _ => rfl
  | n + 1, h => by
    have ih := q_cnt_o n fun u hu => h u (by omega)
    have h1 := h n (by omega)
    show q_cnt (fun u => f u || g u) n + (if (f n || g n) = true then 1 else 0) = q_cnt f n + (if f n = true then 1 else 0) + (q_cnt g n + (if g n = true then 1 else 0))
    rw [ih]
    cases c : f n with
    | true => rw [h1 c]; simp; omega
    | false => cases g n <;> simp <;> omega
theorem q_cnt_t {g : Nat → Bool} {t : Nat} : ∀ n : Nat, t ≤ n → q_cnt (fun u => g u && decide (u < t)) n = q_cnt g t
  | 0, h => by have e : t = 0 := by omega
               subst e; rfl
  | n + 1, h => by
    by_cases e : t = n + 1
    · subst e
      exact q_cnt_e (n + 1) fun u hu => by rw [decide_eq_true hu, Bool.and_true]
    · show q_cnt (fun u => g u && decide (u < t)) n + (if (g n && decide (n < t)) = true then 1 else 0) = _
      rw [q_cnt_t n (by omega), decide_eq_false (by omega), Bool.and_false, if_neg (by decide), Nat.add_zero]
/-- what a team is ranked by -/
def lexB (S : q_St) (o t : Nat) : Prop := (scoS S t).toInt < (scoS S o).toInt ∨ ((scoS S t).toInt = (scoS S o).toInt ∧ (distS S o).toInt < (distS S t).toInt)
theorem ahe_iff {S : q_St} {K : Nat} (ho : q_ok K S) (hK : K ≤ 512) {o t : Nat} (h1 : o < 10) (h2 : t < 10) : aheS S o t = true ↔ lexB S o t := by
  unfold lexB
  by_cases c : scoS S t < scoS S o
  · rw [ahe_1 ho hK h1 h2 c]
    exact ⟨fun _ => Or.inl (Int32.lt_iff_toInt_lt.mp c), fun _ => rfl⟩
  · have c' : ¬ (scoS S t).toInt < (scoS S o).toInt := fun q => c (Int32.lt_iff_toInt_lt.mpr q)
    by_cases d : scoS S o = scoS S t
    · rw [ahe_3 ho hK h1 h2 c d]
      have d2 : (scoS S t).toInt = (scoS S o).toInt := by rw [d]
      have e : (distS S t ≤ distS S o) ↔ (distS S t).toInt ≤ (distS S o).toInt := Int32.le_iff_toInt_le
      simp only [Bool.not_eq_true', decide_eq_false_iff_not, e]
      omega
    · rw [ahe_2 ho hK h1 h2 c d]
      have d2 : ¬ (scoS S t).toInt = (scoS S o).toInt := fun q => d (Int32.toInt_inj.mp q).symm
      refine ⟨fun q => (by cases q), fun q => ?_⟩
      omega
def bfr (S : q_St) (t o : Nat) : Bool := aheS S o t || (tie1 S t o && decide (o < t))
theorem bfr_iff {S : q_St} {K : Nat} (ho : q_ok K S) (hK : K ≤ 512) {o t : Nat} (h1 : o < 10) (h2 : t < 10) : bfr S t o = true ↔ (lexB S o t ∨ (¬ lexB S t o ∧ o < t)) := by
  have e1 := ahe_iff ho hK h1 h2
  have e2 := ahe_iff ho hK h2 h1
  unfold bfr tie1
  rw [Bool.or_eq_true, Bool.and_eq_true, Bool.and_eq_true, Bool.and_eq_true, e1]
  simp only [Bool.not_eq_true', decide_eq_true_eq, decide_eq_false_iff_not]
  constructor
  · rintro (h | ⟨⟨⟨h3, h4⟩, h5⟩, h6⟩)
    · exact Or.inl h
    · exact Or.inr ⟨fun q => (by rw [e2.mpr q] at h5; cases h5), h6⟩
  · rintro (h | ⟨h3, h4⟩)
    · exact Or.inl h
    · by_cases q : lexB S o t
      · exact Or.inl q
      · exact Or.inr ⟨⟨⟨fun z => (by have := (nI_eq (by omega) (by omega)).mp z; omega), bool_f fun z => q (e1.mp z)⟩, bool_f fun z => h3 (e2.mp z)⟩, h4⟩
theorem plc_cnt {S : q_St} {K : Nat} (ho : q_ok K S) (hK : K ≤ 512) {t : Nat} (ht : t < s_n S) : plcS S t = nI (q_cnt (bfr S t) (s_n S)) := by
  have hn := ok_n ho
  unfold plcS rnkS
  have e1 : q_cnt (bfr S t) (s_n S) = q_cnt (fun o => aheS S o t) (s_n S) + q_cnt (tie1 S t) t := by
    rw [← q_cnt_t (g := tie1 S t) (t := t) (s_n S) (by omega)]
    exact q_cnt_o (s_n S) fun u hu h => by
      have h2 : tie1 S t u = false := by unfold tie1; rw [h]; simp
      rw [h2]; rfl
  rw [e1, ← nI_1, Int32.add_sub_cancel, nI_add]
theorem plc_in {S : q_St} {K : Nat} (ho : q_ok K S) (hK : K ≤ 512) {t u : Nat} (ht : t < s_n S) (hu : u < s_n S) (h : plcS S t = plcS S u) : t = u := by
  have hn := ok_n ho
  have key : ∀ p q : Nat, p < s_n S → q < s_n S → bfr S q p = true → q_cnt (bfr S p) (s_n S) < q_cnt (bfr S q) (s_n S) := by
    intro p q hp hq hb
    have hb2 := (bfr_iff ho hK (o := p) (t := q) (by omega) (by omega)).mp hb
    refine q_cnt_s (k := p) (bool_f fun z => ?_) hb (s_n S) hp fun o hO z => ?_
    · have z2 := (bfr_iff ho hK (o := p) (t := p) (by omega) (by omega)).mp z
      unfold lexB at z2
      omega
    · have z2 := (bfr_iff ho hK (o := o) (t := p) (by omega) (by omega)).mp z
      refine (bfr_iff ho hK (o := o) (t := q) (by omega) (by omega)).mpr ?_
      unfold lexB at z2 hb2 ⊢
      omega
  rw [plc_cnt ho hK ht, plc_cnt ho hK hu] at h
  have b1 := q_cnt_le (bfr S t) (s_n S)
  have b2 := q_cnt_le (bfr S u) (s_n S)
  have h := (nI_eq (by omega) (by omega)).mp h
  rcases Nat.lt_trichotomy t u with c | c | c
  · by_cases q : bfr S u t = true
    · have := key t u ht hu q; omega
    · have q2 : bfr S t u = true := by
        have q3 : ¬ (lexB S t u ∨ (¬ lexB S u t ∧ t < u)) := fun z => q ((bfr_iff ho hK (o := t) (t := u) (by omega) (by omega)).mpr z)
        refine (bfr_iff ho hK (o := u) (t := t) (by omega) (by omega)).mpr ?_
        unfold lexB at q3 ⊢
        omega
      have := key u t hu ht q2; omega
  · exact c
  · by_cases q : bfr S t u = true
    · have := key u t hu ht q; omega
    · have q2 : bfr S u t = true := by
        have q3 : ¬ (lexB S u t ∨ (¬ lexB S t u ∧ u < t)) := fun z => q ((bfr_iff ho hK (o := u) (t := t) (by omega) (by omega)).mpr z)
        refine (bfr_iff ho hK (o := t) (t := u) (by omega) (by omega)).mpr ?_
        unfold lexB at q3 ⊢
        omega
      have := key t u ht hu q2; omega
theorem lasF_n {S : q_St} {x : Int32} : ∀ n : Nat, (∀ u, u < n → ¬ plcS S u = x) → lasF S x n = -1
  | 0, _ => rfl
  | n + 1, h => by
    show (if plcS S n = x then nI n else lasF S x n) = -1
    rw [if_neg (h n (by omega)), lasF_n n fun u hu => h u (by omega)]
theorem lasF_t {S : q_St} {x : Int32} {t : Nat} (h : plcS S t = x) : ∀ n : Nat, t < n → (∀ u, u < n → plcS S u = x → u = t) → lasF S x n = nI t
  | 0, h, _ => absurd h (by omega)
  | n + 1, hn, hu => by
    show (if plcS S n = x then nI n else lasF S x n) = nI t
    by_cases e : plcS S n = x
    · rw [if_pos e, hu n (by omega) e]
    · have : ¬ t = n := fun q => e (q ▸ h)
      rw [if_neg e, lasF_t h n (by omega) fun u hu2 => hu u (by omega)]
theorem at_eq {V : q_CV} {K : Nat} (ho : q_ok K (v_now V)) (hK : K ≤ 512) (x : Int32) : atR V x = lasF (v_now V) x (s_n (v_now V)) := by
  have hn := ok_n ho
  unfold atR
  by_cases c : lead (at_f (v_now V) x) (s_n (v_now V)) = s_n (v_now V)
  · rw [if_pos c]
    refine (lasF_n (s_n (v_now V)) fun u hu => ?_).symm
    have := lead_all c u hu
    unfold at_f at this
    simpa using this
  · rw [if_neg c]
    have hle := lead_le (at_f (v_now V) x) (s_n (v_now V))
    have ex : ∃ i, i < s_n (v_now V) ∧ lead (at_f (v_now V) x) (s_n (v_now V)) = i ∧ at_f (v_now V) x i = false := by
      have key : ∀ n, ¬ lead (at_f (v_now V) x) n = n → ∃ i, i < n ∧ lead (at_f (v_now V) x) n = i ∧ at_f (v_now V) x i = false := by
        intro n
        induction n with
        | zero => intro h; exact absurd rfl h
        | succ n ih =>
          intro h
          by_cases d : lead (at_f (v_now V) x) n = n
          · by_cases f : at_f (v_now V) x n = true
            · exact absurd (lead_s d f) h
            · exact ⟨n, by omega, lead_stop d (bool_f f) (by omega), bool_f f⟩
          · obtain ⟨i, h1, h2, h3⟩ := ih d
            refine ⟨i, by omega, ?_, h3⟩
            unfold lead
            rw [if_neg (fun q => d q.1), h2]
      exact key _ c
    obtain ⟨i, h1, h2, h3⟩ := ex
    have h4 : plcS (v_now V) i = x := by unfold at_f at h3; simpa using h3
    rw [h2]
    exact (lasF_t h4 (s_n (v_now V)) h1 fun u hu h5 => plc_in ho hK hu h1 (h5.trans h4.symm)).symm
