/-! what couples the class's world with the reference's -/
theorem cp_x {S : q_St} {f g : Nat → Int32} (h : ∀ k, k < 1336 → g k = f k) (hc : q_cp S f) : q_cp S g := by
  refine ⟨?_, ?_, ?_, ?_, ?_, ?_, ?_, ?_, ?_⟩
  · exact fun k hk => (h _ (by omega)).trans (hc.1 k hk)
  · exact (h _ (by omega)).trans hc.2.1
  · exact (h _ (by omega)).trans hc.2.2.1
  · exact fun q => (h _ (by omega)).trans (hc.2.2.2.1 q)
  · exact (h _ (by omega)).trans hc.2.2.2.2.1
  · exact fun r hr => (h _ (by omega)).trans (hc.2.2.2.2.2.1 r hr)
  · exact fun r hr q k hk => (h _ (by omega)).trans (hc.2.2.2.2.2.2.1 r hr q k hk)
  · exact fun u hu => ⟨(h _ (by omega)).trans (cp_paid hc hu), (h _ (by omega)).trans (cp_jok hc hu), (h _ (by omega)).trans (cp_fin hc hu), (h _ (by omega)).trans (cp_gue hc hu)⟩
  · exact fun u q hu hq => ⟨(h _ (by omega)).trans (cp_has hc hu hq), (h _ (by omega)).trans (cp_tld hc hu hq), fun z => ⟨(h _ (by omega)).trans (cp_mar hc hu hq z), (h _ (by omega)).trans (cp_mkr hc hu hq z)⟩, (h _ (by omega)).trans (cp_lok hc hu hq), fun z k hk => (h _ (by omega)).trans (cp_ans hc hu hq z hk)⟩
theorem ok_up {K K2 : Nat} {S : q_St} (h : K ≤ K2) (ho : q_ok K S) : q_ok K2 S :=
  ⟨ho.1, fun u hu => by obtain ⟨j, h1, h2⟩ := ok_fin ho hu; exact ⟨j, by omega, h2⟩, ho.2.2⟩
theorem bool_t {b : Bool} (h : ¬ b = false) : b = true := by cases b with | true => rfl | false => exact absurd rfl h
theorem bool_f {b : Bool} (h : ¬ b = true) : b = false := by cases b with | false => rfl | true => exact absurd rfl h
def rl_P (V : q_CV) (M : q_MV) : Prop := v_pl V ≤ 80 ∧ m_len M = v_pl V ∧ ∀ k, k < v_pl V → m_pad M k = v_pc V k
def rl_H (K : Nat) (V : q_CV) (M : q_MV) : Prop := m_st M = v_hl V ∧ v_hl V ≤ 6 ∧ v_nxt V < 6 ∧ ∀ j, j < v_hl V → q_cp (v_sx V ((v_nxt V + 5 - j) % 6 + 1)) (fun k => m_bef M (1336 * (v_hl V - 1 - j) + k)) ∧ q_ok K (v_sx V ((v_nxt V + 5 - j) % 6 + 1))
def rl_S (K : Nat) (V : q_CV) (M : q_MV) : Prop := ∀ i, i < 2 → m_iss M i = v_sav V i ∧ (¬ v_sav V i = 0 → q_cp (v_sx V (i + 7)) (fun k => m_sav M (1336 * i + k)) ∧ q_ok K (v_sx V (i + 7)))
def q_rel (K : Nat) (V : q_CV) (M : q_MV) : Prop := (q_cp (v_now V) (m_s M) ∧ q_ok K (v_now V)) ∧ rl_P V M ∧ rl_H K V M ∧ rl_S K V M
theorem rl_Hup {K : Nat} {V : q_CV} {M : q_MV} (h : rl_H K V M) : rl_H (K + 1) V M := ⟨h.1, h.2.1, h.2.2.1, fun j hj => ⟨(h.2.2.2 j hj).1, ok_up (Nat.le_succ K) (h.2.2.2 j hj).2⟩⟩
theorem rl_Sup {K : Nat} {V : q_CV} {M : q_MV} (h : rl_S K V M) : rl_S (K + 1) V M := fun i hi => ⟨(h i hi).1, fun z => ⟨((h i hi).2 z).1, ok_up (Nat.le_succ K) ((h i hi).2 z).2⟩⟩
theorem rl_up {K : Nat} {V : q_CV} {M : q_MV} (h : q_rel K V M) : q_rel (K + 1) V M := ⟨⟨h.1.1, ok_up (Nat.le_succ K) h.1.2⟩, h.2.1, rl_Hup h.2.2.1, rl_Sup h.2.2.2⟩
theorem va_up_e {X : Nat → q_St} {j : Nat} {S : q_St} : va_up X j S j = S := if_pos rfl
theorem va_up_n {X : Nat → q_St} {j k : Nat} {S : q_St} (h : ¬ k = j) : va_up X j S k = X k := if_neg h
theorem shl_i {f : Nat → Int32} {i k : Nat} (h : k < i) : shl f i k = f (1336 + k) := if_pos h
theorem m_rec6 {M : q_MV} (h : m_st M = 6) : m_rec M = n_st (n_bef M (ovl (shl (m_bef M) 6680) (m_s M) (1336 * 5) 1336)) (5 + 1) := if_pos h
theorem m_recn {M : q_MV} (h : ¬ m_st M = 6) : m_rec M = n_st (n_bef M (ovl (m_bef M) (m_s M) (1336 * m_st M) 1336)) (m_st M + 1) := if_neg h
theorem rl_recH {K : Nat} {V : q_CV} {M : q_MV} (h : q_rel K V M) : rl_H K (v_rec V) (m_rec M) := by
  obtain ⟨⟨hc, ho⟩, -, ⟨h1, h2, h3, h4⟩, -⟩ := h
  have en : v_nxt (v_rec V) = if v_nxt V = 5 then 0 else v_nxt V + 1 := rfl
  have el : v_hl (v_rec V) = if v_hl V < 6 then v_hl V + 1 else 6 := rfl
  have ex : v_sx (v_rec V) = va_up (v_sx V) (v_nxt V + 1) (v_now V) := rfl
  have hn : v_nxt (v_rec V) < 6 ∧ ∀ j, j < 6 → (v_nxt (v_rec V) + 5 - j) % 6 = if j = 0 then v_nxt V else (v_nxt V + 5 - (j - 1)) % 6 := by
    rw [en]
    refine ⟨by split <;> omega, fun j hj => ?_⟩
    by_cases c : v_nxt V = 5
    · rw [if_pos c, c]; split <;> omega
    · rw [if_neg c]; split <;> omega
  have hl : v_hl (v_rec V) ≤ 6 := by rw [el]; split <;> omega
  have key : ∀ j, j < v_hl (v_rec V) → ∀ k, k < 1336 → m_bef (m_rec M) (1336 * (v_hl (v_rec V) - 1 - j) + k) = if j = 0 then m_s M k else m_bef M (1336 * (v_hl V - 1 - (j - 1)) + k) := by
    intro j hj k hk
    by_cases c : m_st M = 6
    · have e6 : v_hl (v_rec V) = 6 := by rw [el, if_neg (by omega)]
      rw [e6] at hj
      rw [e6, m_rec6 c]
      show ovl (shl (m_bef M) 6680) (m_s M) (1336 * 5) 1336 (1336 * (6 - 1 - j) + k) = _
      by_cases j0 : j = 0
      · subst j0
        rw [if_pos rfl]
        exact ovl_i hk
      · rw [if_neg j0, ovl_o (by omega), shl_i (by omega)]
        congr 1
        omega
    · have e6 : v_hl (v_rec V) = v_hl V + 1 := by rw [el, if_pos (by omega)]
      rw [e6] at hj
      rw [e6, m_recn c, h1]
      show ovl (m_bef M) (m_s M) (1336 * v_hl V) 1336 (1336 * (v_hl V + 1 - 1 - j) + k) = _
      by_cases j0 : j = 0
      · subst j0
        rw [if_pos rfl, show v_hl V + 1 - 1 - 0 = v_hl V from by omega]
        exact ovl_i hk
      · rw [if_neg j0, ovl_o (by omega)]
        congr 1
        omega
  refine ⟨?_, hl, hn.1, fun j hj => ?_⟩
  · by_cases c : m_st M = 6
    · rw [m_rec6 c, el, if_neg (by omega)]; rfl
    · rw [m_recn c, el, if_pos (by omega), ← h1]; rfl
  · rw [hn.2 j (by omega), ex]
    by_cases j0 : j = 0
    · subst j0
      rw [if_pos rfl, va_up_e]
      exact ⟨cp_x (fun k hk => by have := key 0 hj k hk; rwa [if_pos rfl] at this) hc, ho⟩
    · have hj2 : j - 1 < v_hl V := by rw [el] at hj; split at hj <;> omega
      rw [if_neg j0, va_up_n (by omega)]
      exact ⟨cp_x (fun k hk => by have := key j hj k hk; rwa [if_neg j0] at this) (h4 (j - 1) hj2).1, (h4 (j - 1) hj2).2⟩
theorem rl_recP {K : Nat} {V : q_CV} {M : q_MV} (h : q_rel K V M) : rl_P (v_rec V) (m_rec M) := by
  obtain ⟨-, ⟨h1, h2, h3⟩, -⟩ := h
  exact ⟨h1, (m_recl M).trans h2, fun k hk => (congrFun (m_recp M) k).trans (h3 k hk)⟩
theorem rl_recS {K : Nat} {V : q_CV} {M : q_MV} (h : q_rel K V M) : rl_S K (v_rec V) (m_rec M) := by
  obtain ⟨-, -, ⟨-, -, h3, -⟩, h4⟩ := h
  intro i hi
  have ex : v_sx (v_rec V) (i + 7) = v_sx V (i + 7) := va_up_n (by omega)
  refine ⟨(congrFun (m_reci M) i).trans (h4 i hi).1, fun z => ?_⟩
  rw [ex]
  obtain ⟨h5, h6⟩ := (h4 i hi).2 z
  exact ⟨cp_x (fun k _ => congrFun (m_recv M) _) h5, h6⟩
theorem rl_w {K : Nat} {V : q_CV} {M : q_MV} {S : q_St} {f : Nat → Int32} (h : q_rel K V M) (hc : q_cp S f) (ho : q_ok (K + 1) S) : q_rel (K + 1) (w_now (v_rec V) S) (n_s (m_rec M) f) :=
  ⟨⟨hc, ho⟩, rl_recP h, rl_Hup (rl_recH h), rl_Sup (rl_recS h)⟩
theorem rl_w0 {K : Nat} {V : q_CV} {M : q_MV} {S : q_St} {f : Nat → Int32} (h : q_rel K V M) (hc : q_cp S f) (ho : q_ok (K + 1) S) : q_rel (K + 1) (w_pl (w_now (v_rec V) S) 0) (n_len (n_s (m_rec M) f) 0) :=
  ⟨⟨hc, ho⟩, ⟨Nat.zero_le _, rfl, fun k hk => absurd hk (Nat.not_lt_zero k)⟩, rl_Hup (rl_recH h), rl_Sup (rl_recS h)⟩
theorem rl_c {K : Nat} {V : q_CV} {M : q_MV} (h : q_rel K V M) : q_cp (v_now V) (m_s (m_rec M)) := by rw [m_recs]; exact h.1.1
theorem teaE_0 {V : q_CV} (h : teaE V = 0) : s_n (v_now V) < 10 ∧ q_or (isOp (v_now V)) 8 = 255 := by
  unfold teaE at h
  by_cases c0 : ¬ s_n (v_now V) < 10
  · rw [if_pos c0] at h; exact absurd h (by decide)
  rw [if_neg c0] at h
  by_cases c1 : ¬ q_or (isOp (v_now V)) 8 = 255
  · rw [if_pos c1] at h; exact absurd h (by decide)
  rw [if_neg c1] at h
  exact ⟨Classical.byContradiction c0, Classical.byContradiction c1⟩
theorem hanE_0 {V : q_CV} {x y : Int32} (h : hanE V x y = 0) : isTm (v_now V) x = true ∧ isRd y = true ∧ tshP (v_pc V) (v_pl V) = true ∧ isOp (v_now V) (tN y) = true ∧ hasS (v_now V) (tN x) (tN y) = false := by
  unfold hanE at h
  by_cases c0 : isTm (v_now V) x = false
  · rw [if_pos c0] at h; exact absurd h (by decide)
  rw [if_neg c0] at h
  by_cases c1 : isRd y = false
  · rw [if_pos c1] at h; exact absurd h (by decide)
  rw [if_neg c1] at h
  by_cases c2 : tshP (v_pc V) (v_pl V) = false
  · rw [if_pos c2] at h; exact absurd h (by decide)
  rw [if_neg c2] at h
  by_cases c3 : isOp (v_now V) (tN y) = false
  · rw [if_pos c3] at h; exact absurd h (by decide)
  rw [if_neg c3] at h
  by_cases c4 : hasS (v_now V) (tN x) (tN y) = true
  · rw [if_pos c4] at h; exact absurd h (by decide)
  rw [if_neg c4] at h
  exact ⟨bool_t c0, bool_t c1, bool_t c2, bool_t c3, bool_f c4⟩
theorem jokE_0 {V : q_CV} {x y : Int32} (h : jokE V x y = 0) : isTm (v_now V) x = true ∧ isRd y = true ∧ s_jok (v_now V) (tN x) = -6 ∧ isOp (v_now V) (tN y) = true ∧ hasS (v_now V) (tN x) (tN y) = false := by
  unfold jokE at h
  by_cases c0 : isTm (v_now V) x = false
  · rw [if_pos c0] at h; exact absurd h (by decide)
  rw [if_neg c0] at h
  by_cases c1 : isRd y = false
  · rw [if_pos c1] at h; exact absurd h (by decide)
  rw [if_neg c1] at h
  by_cases c2 : ¬ s_jok (v_now V) (tN x) = -6
  · rw [if_pos c2] at h; exact absurd h (by decide)
  rw [if_neg c2] at h
  by_cases c3 : isOp (v_now V) (tN y) = false
  · rw [if_pos c3] at h; exact absurd h (by decide)
  rw [if_neg c3] at h
  by_cases c4 : hasS (v_now V) (tN x) (tN y) = true
  · rw [if_pos c4] at h; exact absurd h (by decide)
  rw [if_neg c4] at h
  exact ⟨bool_t c0, bool_t c1, Classical.byContradiction c2, bool_t c3, bool_f c4⟩
theorem keyE_0 {V : q_CV} {y : Int32} (h : keyE V y = 0) : isRd y = true ∧ tkyP (v_pc V) (v_pl V) = true ∧ isOp (v_now V) (tN y) = true := by
  unfold keyE at h
  by_cases c0 : isRd y = false
  · rw [if_pos c0] at h; exact absurd h (by decide)
  rw [if_neg c0] at h
  by_cases c1 : tkyP (v_pc V) (v_pl V) = false
  · rw [if_pos c1] at h; exact absurd h (by decide)
  rw [if_neg c1] at h
  by_cases c2 : isOp (v_now V) (tN y) = false
  · rw [if_pos c2] at h; exact absurd h (by decide)
  rw [if_neg c2] at h
  exact ⟨bool_t c0, bool_t c1, bool_t c2⟩
theorem marE_0 {V : q_CV} {m x y k : Int32} (h : marE V m x y k = 0) : isTm (v_now V) m = true ∧ isTm (v_now V) x = true ∧ isRd y = true ∧ ¬ m = x ∧ ¬ k < -20 ∧ k ≤ 10 ∧ isOp (v_now V) (tN y) = false ∧ hasS (v_now V) (tN x) (tN y) = true ∧ tldS (v_now V) (tN x) (tN y) = false := by
  unfold marE at h
  by_cases c0 : isTm (v_now V) m = false
  · rw [if_pos c0] at h; exact absurd h (by decide)
  rw [if_neg c0] at h
  by_cases c1 : isTm (v_now V) x = false
  · rw [if_pos c1] at h; exact absurd h (by decide)
  rw [if_neg c1] at h
  by_cases c2 : isRd y = false
  · rw [if_pos c2] at h; exact absurd h (by decide)
  rw [if_neg c2] at h
  by_cases c3 : m = x
  · rw [if_pos c3] at h; exact absurd h (by decide)
  rw [if_neg c3] at h
  by_cases c4 : k < -20
  · rw [if_pos c4] at h; exact absurd h (by decide)
  rw [if_neg c4] at h
  by_cases c5 : ¬ k ≤ 10
  · rw [if_pos c5] at h; exact absurd h (by decide)
  rw [if_neg c5] at h
  by_cases c6 : isOp (v_now V) (tN y) = true
  · rw [if_pos c6] at h; exact absurd h (by decide)
  rw [if_neg c6] at h
  by_cases c7 : hasS (v_now V) (tN x) (tN y) = false
  · rw [if_pos c7] at h; exact absurd h (by decide)
  rw [if_neg c7] at h
  by_cases c8 : tldS (v_now V) (tN x) (tN y) = true
  · rw [if_pos c8] at h; exact absurd h (by decide)
  rw [if_neg c8] at h
  exact ⟨bool_t c0, bool_t c1, bool_t c2, c3, c4, Classical.byContradiction c5, bool_f c6, bool_t c7, bool_f c8⟩
theorem lokE_0 {V : q_CV} {x y : Int32} (h : lokE V x y = 0) : isTm (v_now V) x = true ∧ isRd y = true ∧ tldS (v_now V) (tN x) (tN y) = true ∧ lokS (v_now V) (tN x) (tN y) = false := by
  unfold lokE at h
  by_cases c0 : isTm (v_now V) x = false
  · rw [if_pos c0] at h; exact absurd h (by decide)
  rw [if_neg c0] at h
  by_cases c1 : isRd y = false
  · rw [if_pos c1] at h; exact absurd h (by decide)
  rw [if_neg c1] at h
  by_cases c2 : tldS (v_now V) (tN x) (tN y) = false
  · rw [if_pos c2] at h; exact absurd h (by decide)
  rw [if_neg c2] at h
  by_cases c3 : lokS (v_now V) (tN x) (tN y) = true
  · rw [if_pos c3] at h; exact absurd h (by decide)
  rw [if_neg c3] at h
  exact ⟨bool_t c0, bool_t c1, bool_t c2, bool_f c3⟩
theorem gueE_0 {V : q_CV} {x y : Int32} (h : gueE V x y = 0) : isTm (v_now V) x = true ∧ ¬ y < 0 ∧ y ≤ 9999 ∧ s_tru (v_now V) = -6 := by
  unfold gueE at h
  by_cases c0 : isTm (v_now V) x = false
  · rw [if_pos c0] at h; exact absurd h (by decide)
  rw [if_neg c0] at h
  by_cases c1 : y < 0
  · rw [if_pos c1] at h; exact absurd h (by decide)
  rw [if_neg c1] at h
  by_cases c2 : ¬ y ≤ 9999
  · rw [if_pos c2] at h; exact absurd h (by decide)
  rw [if_neg c2] at h
  by_cases c3 : ¬ s_tru (v_now V) = -6
  · rw [if_pos c3] at h; exact absurd h (by decide)
  rw [if_neg c3] at h
  exact ⟨bool_t c0, c1, Classical.byContradiction c2, Classical.byContradiction c3⟩
theorem truE_0 {V : q_CV} {y : Int32} (h : truE V y = 0) : ¬ y < 0 ∧ y ≤ 9999 ∧ s_tru (v_now V) = -6 := by
  unfold truE at h
  by_cases c0 : y < 0
  · rw [if_pos c0] at h; exact absurd h (by decide)
  rw [if_neg c0] at h
  by_cases c1 : ¬ y ≤ 9999
  · rw [if_pos c1] at h; exact absurd h (by decide)
  rw [if_neg c1] at h
  by_cases c2 : ¬ s_tru (v_now V) = -6
  · rw [if_pos c2] at h; exact absurd h (by decide)
  rw [if_neg c2] at h
  exact ⟨c0, Classical.byContradiction c1, Classical.byContradiction c2⟩
theorem setE_0 {x y : Int32} (h : setE x y = 0) : ¬ x < 0 ∧ ¬ (3 : Int32) < x ∧ ¬ y < leaS (tN x) ∧ y ≤ graS (tN x) := by
  unfold setE at h
  by_cases c0 : x < 0
  · rw [if_pos c0] at h; exact absurd h (by decide)
  rw [if_neg c0] at h
  by_cases c1 : (3 : Int32) < x
  · rw [if_pos c1] at h; exact absurd h (by decide)
  rw [if_neg c1] at h
  by_cases c2 : y < leaS (tN x)
  · rw [if_pos c2] at h; exact absurd h (by decide)
  rw [if_neg c2] at h
  by_cases c3 : ¬ y ≤ graS (tN x)
  · rw [if_pos c3] at h; exact absurd h (by decide)
  rw [if_neg c3] at h
  exact ⟨c0, c1, c2, Classical.byContradiction c3⟩
theorem resE_0 {V : q_CV} {x : Int32} (h : resE V x = 0) : isSl x = true ∧ ¬ v_sav V (tN x) = 0 := by
  unfold resE at h
  by_cases c0 : isSl x = false
  · rw [if_pos c0] at h; exact absurd h (by decide)
  rw [if_neg c0] at h
  by_cases c1 : v_sav V (tN x) = 0
  · rw [if_pos c1] at h; exact absurd h (by decide)
  rw [if_neg c1] at h
  exact ⟨bool_t c0, c1⟩
theorem putE_0 {V : q_CV} {x : Int64} (h : putE V x = 0) : ¬ chN x 0 8 = 0 ∧ v_pl V + chN x 0 8 ≤ 80 := by
  unfold putE at h
  by_cases c0 : chN x 0 8 = 0
  · rw [if_pos c0] at h; exact absurd h (by decide)
  rw [if_neg c0] at h
  by_cases c1 : ¬ v_pl V + chN x 0 8 ≤ 80
  · rw [if_pos c1] at h; exact absurd h (by decide)
  rw [if_neg c1] at h
  exact ⟨c0, Classical.byContradiction c1⟩
theorem rl_tea {K : Nat} {V : q_CV} {M : q_MV} (h : q_rel K V M) : q_rel (K + 1) (teaV V) (teaM M V) := by
  have hc := rl_c h
  have ho := h.1.2
  have hn := ok_n ho
  by_cases e : teaE V = 0
  · have e0 := e
    rw [show teaV V = _ from if_pos e, show teaM M V = _ from if_pos e]
    exact rl_w h (cp_teau hc (teaE_0 e).1) (ok_up (Nat.le_succ K) (ok_teau ho (teaE_0 e).1))
  · rw [show teaV V = _ from if_neg e, show teaM M V = _ from if_neg e]
    exact rl_up h
theorem rl_han {K : Nat} {V : q_CV} {M : q_MV} (h : q_rel K V M) (x y : Int32) : q_rel (K + 1) (hanV V x y) (hanM M V x y) := by
  have hc := rl_c h
  have ho := h.1.2
  have hn := ok_n ho
  by_cases e : hanE V x y = 0
  · have e0 := e
    rw [show hanV V x y = _ from if_pos e, show hanM M V x y = _ from if_pos e]
    obtain ⟨e1, e2, e3, e4, e5⟩ := hanE_0 e
    obtain ⟨t, ht, htx, rfl⟩ := isTm_of hn e1
    have ct : tN (nI t) = t := tN_n (by omega)
    obtain ⟨r, hr, rfl⟩ := isRd_of e2
    have cr : tN (nI r) = r := tN_n (by omega)
    have hsg := (tsh_t e3).2
    rw [ct, cr]
    exact rl_w0 h (cp_hanu hc htx hr (sg_ne _) (han_g hsg)) (ok_up (Nat.le_succ K) (ok_hanu ho ht hr (sg_ne _) (han_o hsg)))
  · rw [show hanV V x y = _ from if_neg e, show hanM M V x y = _ from if_neg e]
    exact rl_up h
theorem rl_jok {K : Nat} {V : q_CV} {M : q_MV} (h : q_rel K V M) (x y : Int32) : q_rel (K + 1) (jokV V x y) (jokM M V x y) := by
  have hc := rl_c h
  have ho := h.1.2
  have hn := ok_n ho
  by_cases e : jokE V x y = 0
  · have e0 := e
    rw [show jokV V x y = _ from if_pos e, show jokM M V x y = _ from if_pos e]
    obtain ⟨e1, e2, e3, e4, e5⟩ := jokE_0 e
    obtain ⟨t, ht, htx, rfl⟩ := isTm_of hn e1
    have ct : tN (nI t) = t := tN_n (by omega)
    obtain ⟨r, hr, rfl⟩ := isRd_of e2
    have cr : tN (nI r) = r := tN_n (by omega)
    rw [ct, cr]
    exact rl_w h (cp_joku hc htx hr) (ok_up (Nat.le_succ K) (ok_joku ho htx hr))
  · rw [show jokV V x y = _ from if_neg e, show jokM M V x y = _ from if_neg e]
    exact rl_up h
theorem rl_key {K : Nat} {V : q_CV} {M : q_MV} (h : q_rel K V M) (y : Int32) : q_rel (K + 1) (keyV V y) (keyM M V y) := by
  have hc := rl_c h
  have ho := h.1.2
  have hn := ok_n ho
  by_cases e : keyE V y = 0
  · have e0 := e
    rw [show keyV V y = _ from if_pos e, show keyM M V y = _ from if_pos e]
    obtain ⟨e1, e2, e3⟩ := keyE_0 e
    obtain ⟨r, hr, rfl⟩ := isRd_of e1
    have cr : tN (nI r) = r := tN_n (by omega)
    have hdg := (tky_t e2).2
    rw [cr]
    exact rl_w0 h (cp_keyu hc hr (sg_ne _) (key_g hdg)) (ok_up (Nat.le_succ K) (ok_keyu ho hr (sg_ne _) (key_o hdg)))
  · rw [show keyV V y = _ from if_neg e, show keyM M V y = _ from if_neg e]
    exact rl_up h
theorem rl_mar {K : Nat} {V : q_CV} {M : q_MV} (h : q_rel K V M) (m x y k : Int32) : q_rel (K + 1) (marV V m x y k) (marM M V m x y k) := by
  have hc := rl_c h
  have ho := h.1.2
  have hn := ok_n ho
  by_cases e : marE V m x y k = 0
  · have e0 := e
    rw [show marV V m x y k = _ from if_pos e, show marM M V m x y k = _ from if_pos e]
    obtain ⟨e1, e2, e3, e4, e5, e6, e7, e8, e9⟩ := marE_0 e
    obtain ⟨o, hO, hOx, rfl⟩ := isTm_of hn e1
    have co : tN (nI o) = o := tN_n (by omega)
    obtain ⟨t, ht, htx, rfl⟩ := isTm_of hn e2
    have ct : tN (nI t) = t := tN_n (by omega)
    obtain ⟨r, hr, rfl⟩ := isRd_of e3
    have cr : tN (nI r) = r := tN_n (by omega)
    rw [cr] at e7
    rw [ct, cr] at e8
    rw [ct, cr, co]
    have k1 : -20 ≤ k.toInt := by have := Int32.le_iff_toInt_le.mp (Int32.not_lt.mp e5); rwa [show (-20 : Int32).toInt = -20 from by decide] at this
    have k2 : k.toInt ≤ 10 := by have := Int32.le_iff_toInt_le.mp e6; rwa [show (10 : Int32).toInt = 10 from by decide] at this
    exact rl_w h (cp_maru hc hOx htx hr k) (ok_up (Nat.le_succ K) (ok_maru ho hO htx hr k1 k2 e8 e7))
  · rw [show marV V m x y k = _ from if_neg e, show marM M V m x y k = _ from if_neg e]
    exact rl_up h
theorem rl_gue {K : Nat} {V : q_CV} {M : q_MV} (h : q_rel K V M) (x y : Int32) : q_rel (K + 1) (gueV V x y) (gueM M V x y) := by
  have hc := rl_c h
  have ho := h.1.2
  have hn := ok_n ho
  by_cases e : gueE V x y = 0
  · have e0 := e
    rw [show gueV V x y = _ from if_pos e, show gueM M V x y = _ from if_pos e]
    obtain ⟨e1, e2, e3, e4⟩ := gueE_0 e
    obtain ⟨t, ht, htx, rfl⟩ := isTm_of hn e1
    have ct : tN (nI t) = t := tN_n (by omega)
    obtain ⟨v, hv, rfl⟩ := nI_of e2
    have hv2 := (nI_leI (b := 9999) hv (by decide)).mp e3
    have cv : tN (nI v) = v := tN_n hv
    rw [ct, cv]
    exact rl_w h (cp_gueu hc htx hv2) (ok_up (Nat.le_succ K) (ok_gueu ho htx hv2))
  · rw [show gueV V x y = _ from if_neg e, show gueM M V x y = _ from if_neg e]
    exact rl_up h
theorem rl_tru {K : Nat} {V : q_CV} {M : q_MV} (h : q_rel K V M) (y : Int32) : q_rel (K + 1) (truV V y) (trhM M V y) := by
  have hc := rl_c h
  have ho := h.1.2
  have hn := ok_n ho
  by_cases e : truE V y = 0
  · have e0 := e
    rw [show truV V y = _ from if_pos e, show trhM M V y = _ from if_pos e]
    obtain ⟨e2, e3, e4⟩ := truE_0 e
    obtain ⟨v, hv, rfl⟩ := nI_of e2
    have hv2 := (nI_leI (b := 9999) hv (by decide)).mp e3
    exact rl_w h (cp_truu hc hv2) (ok_up (Nat.le_succ K) (ok_truu ho hv2))
  · rw [show truV V y = _ from if_neg e, show trhM M V y = _ from if_neg e]
    exact rl_up h
theorem rl_set {K : Nat} {V : q_CV} {M : q_MV} (h : q_rel K V M) (x y : Int32) : q_rel (K + 1) (setV V x y) (setM M V x y) := by
  have hc := rl_c h
  have ho := h.1.2
  have hn := ok_n ho
  by_cases e : setE x y = 0
  · have e0 := e
    rw [show setV V x y = _ from if_pos e, show setM M V x y = _ from if_pos e]
    obtain ⟨e1, e2, e3, e4⟩ := setE_0 e
    obtain ⟨j, hj, rfl⟩ := nI_of e1
    have hj2 : j ≤ 3 := Nat.not_lt.mp fun q => e2 ((nI_ltI (a := 3) (by decide) hj).mpr q)
    have cj : tN (nI j) = j := tN_n hj
    rw [cj] at e3 e4
    rw [cj]
    refine rl_w h (cp_setu hc (by omega) y) (ok_up (Nat.le_succ K) (ok_setu ho y ?_ ?_))
    · rintro rfl
      obtain ⟨v, hv, rfl⟩ := nI_of (x := y) e3
      exact ⟨v, (nI_leI (b := 2) hv (by decide)).mp e4, rfl⟩
    · rintro rfl
      obtain ⟨v, hv, rfl⟩ := nI_of (x := y) e3
      exact ⟨v, (nI_leI (b := 9) hv (by decide)).mp e4, rfl⟩
  · rw [show setV V x y = _ from if_neg e, show setM M V x y = _ from if_neg e]
    exact rl_up h
theorem rl_wip {K : Nat} {V : q_CV} {M : q_MV} (h : q_rel K V M) : q_rel (K + 1) (w_pl V 0) (n_len M 0) :=
  ⟨⟨h.1.1, ok_up (Nat.le_succ K) h.1.2⟩, ⟨Nat.zero_le _, rfl, fun k hk => absurd hk (Nat.not_lt_zero k)⟩, rl_Hup h.2.2.1, rl_Sup h.2.2.2⟩
theorem rl_put {K : Nat} {V : q_CV} {M : q_MV} (h : q_rel K V M) (x : Int64) : q_rel (K + 1) (putV V x) (putM M V x) := by
  have hc := rl_c h
  have ho := h.1.2
  have hn := ok_n ho
  by_cases e : putE V x = 0
  · have e0 := e
    rw [show putV V x = _ from if_pos e, show putM M V x = _ from if_pos e]
    obtain ⟨e1, e2⟩ := putE_0 e
    obtain ⟨p1, p2, p3⟩ := h.2.1
    refine ⟨⟨h.1.1, ok_up (Nat.le_succ K) h.1.2⟩, ⟨e2, rfl, ?_⟩, rl_Hup h.2.2.1, rl_Sup h.2.2.2⟩
    intro k hk
    have hk : k < v_pl V + chN x 0 8 := hk
    show ppf (m_pad M) x (v_pl V) (chN x 0 8) (chN x 0 8) k = apf (v_pc V) x (v_pl V + chN x 0 8) (chN x 0 8) k
    unfold ppf apf
    by_cases c : v_pl V ≤ k
    · rw [if_pos ⟨c, hk⟩, if_pos ⟨by omega, hk⟩, show chN x 0 8 - (k - v_pl V) - 1 = v_pl V + chN x 0 8 - 1 - k from by omega]
    · rw [if_neg (fun q => c q.1), if_neg (fun q => c (by omega))]
      exact p3 k (by omega)
  · rw [show putV V x = _ from if_neg e, show putM M V x = _ from if_neg e]
    exact rl_up h
theorem rl_und {K : Nat} {V : q_CV} {M : q_MV} (h : q_rel K V M) : q_rel (K + 1) (undV V) (undM M V) := by
  have hc := rl_c h
  have ho := h.1.2
  have hn := ok_n ho
  by_cases e : undE V = 0
  · have e0 := e
    rw [show undV V = _ from if_pos e, show undM M V = _ from if_pos e]
    obtain ⟨h1, h2, h3, h4⟩ := h.2.2.1
    have e2 : ¬ v_hl V = 0 := fun q => by unfold undE at e; rw [if_pos q] at e; exact absurd e (by decide)
    have hp : v_prv V < 6 ∧ ∀ j, j < 5 → (v_prv V + 5 - j) % 6 = (v_nxt V + 5 - (j + 1)) % 6 := by
      unfold v_prv
      refine ⟨by split <;> omega, fun j hj => ?_⟩
      split <;> omega
    have h0 := h4 0 (by omega)
    have hb : (v_nxt V + 5 - 0) % 6 = v_prv V := by unfold v_prv; split <;> omega
    rw [hb] at h0
    refine ⟨⟨cp_x (fun k hk => ?_) h0.1, ok_up (Nat.le_succ K) h0.2⟩, h.2.1, ⟨congrArg (· - 1) h1, ?_, hp.1, fun j hj => ?_⟩, rl_Sup h.2.2.2⟩
    · show ovl (m_s M) (fun k => m_bef M (1336 * (m_st M - 1) + k)) 0 1336 k = _
      rw [ovl_r hk, h1]; rfl
    · show v_hl V - 1 ≤ 6
      omega
    · have hj : j < v_hl V - 1 := hj
      show q_cp (v_sx V ((v_prv V + 5 - j) % 6 + 1)) (fun k => m_bef M (1336 * (v_hl V - 1 - 1 - j) + k)) ∧ q_ok (K + 1) (v_sx V ((v_prv V + 5 - j) % 6 + 1))
      rw [hp.2 j (by omega)]
      have h5 := h4 (j + 1) (by omega)
      rw [show v_hl V - 1 - (j + 1) = v_hl V - 1 - 1 - j from by omega] at h5
      exact ⟨h5.1, ok_up (Nat.le_succ K) h5.2⟩
  · rw [show undV V = _ from if_neg e, show undM M V = _ from if_neg e]
    exact rl_up h
theorem rl_sav {K : Nat} {V : q_CV} {M : q_MV} (h : q_rel K V M) (x : Int32) : q_rel (K + 1) (savV V x) (savM M x) := by
  have hc := rl_c h
  have ho := h.1.2
  have hn := ok_n ho
  by_cases e : savE x = 0
  · have e0 := e
    rw [show savV V x = _ from if_pos e, show savM M x = _ from if_pos e]
    have e2 : isSl x = true := by
      cases c : isSl x with
      | true => rfl
      | false => unfold savE at e; rw [if_pos c] at e; exact absurd e (by decide)
    obtain ⟨i, hi, rfl⟩ := isSl_of e2
    have ci : tN (nI i) = i := tN_n (by omega)
    rw [ci]
    obtain ⟨h1, h2, h3, h4⟩ := h.2.2.1
    refine ⟨⟨h.1.1, ok_up (Nat.le_succ K) h.1.2⟩, h.2.1, ⟨h1, h2, h3, fun j hj => ?_⟩, fun k hk => ?_⟩
    · have h5 := h4 j hj
      show q_cp (va_up (v_sx V) (i + 7) (v_now V) ((v_nxt V + 5 - j) % 6 + 1)) _ ∧ q_ok (K + 1) (va_up (v_sx V) (i + 7) (v_now V) ((v_nxt V + 5 - j) % 6 + 1))
      rw [va_up_n (by omega)]
      exact ⟨h5.1, ok_up (Nat.le_succ K) h5.2⟩
    · show upd (m_iss M) i 1 k = upd (v_sav V) i 1 k ∧ (¬ upd (v_sav V) i 1 k = 0 → q_cp (va_up (v_sx V) (i + 7) (v_now V) (k + 7)) (fun z => ovl (m_sav M) (m_s M) (1336 * i) 1336 (1336 * k + z)) ∧ q_ok (K + 1) (va_up (v_sx V) (i + 7) (v_now V) (k + 7)))
      by_cases c : k = i
      · subst c
        rw [up_eq, up_eq, va_up_e]
        exact ⟨rfl, fun _ => ⟨cp_x (fun z hz => ovl_i hz) h.1.1, ok_up (Nat.le_succ K) h.1.2⟩⟩
      · rw [up_ne c, up_ne c, va_up_n (by omega)]
        have h5 := h.2.2.2 k hk
        exact ⟨h5.1, fun q => ⟨cp_x (fun z hz => ovl_o (by omega)) (h5.2 q).1, ok_up (Nat.le_succ K) (h5.2 q).2⟩⟩
  · rw [show savV V x = _ from if_neg e, show savM M x = _ from if_neg e]
    exact rl_up h
theorem rl_res {K : Nat} {V : q_CV} {M : q_MV} (h : q_rel K V M) (x : Int32) : q_rel (K + 1) (resV V x) (resM M V x) := by
  have hc := rl_c h
  have ho := h.1.2
  have hn := ok_n ho
  by_cases e : resE V x = 0
  · have e0 := e
    rw [show resV V x = _ from if_pos e, show resM M V x = _ from if_pos e]
    obtain ⟨e1, e2⟩ := resE_0 e
    obtain ⟨i, hi, rfl⟩ := isSl_of e1
    have ci : tN (nI i) = i := tN_n (by omega)
    rw [ci] at e2
    rw [ci]
    obtain ⟨h5, h6⟩ := (h.2.2.2 i hi).2 e2
    exact rl_w h (cp_x (fun k hk => (ovl_r hk).trans (congrFun (m_recv M) _)) h5) (ok_up (Nat.le_succ K) h6)
  · rw [show resV V x = _ from if_neg e, show resM M V x = _ from if_neg e]
    exact rl_up h
