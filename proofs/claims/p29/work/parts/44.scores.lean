/-! scores: what a team can come to, its best joker -/
theorem w_100 : rgI (1000 : Int32) 1000 1000 := ⟨by decide, by decide⟩
theorem w_ext {S : q_St} {t r : Nat} : rgI (extS S t r) 0 20 := by
  unfold extS
  split
  · split
    · exact ⟨by decide, by decide⟩
    · exact ⟨by decide, by decide⟩
  · exact ⟨by decide, by decide⟩
theorem w_gsc {S : q_St} {K : Nat} (ho : q_ok K S) (hK : K ≤ 512) {t : Nat} (ht : t < 10) : (scoS S t).toInt ≤ (gscS S t).toInt ∧ rgI (gscS S t) (-4928) 330 := by
  obtain ⟨h1, h2⟩ := rg_sco ho hK ht
  have hA := rg_acc (a := scoS S t) (f := extS S t) (lo := (scoS S t).toInt) (hi := (scoS S t).toInt) (l := 0) (h := 20) ⟨Int.le_refl _, Int.le_refl _⟩ (by decide) (by decide) 8 (fun k _ => w_ext) (by omega) (by omega)
  obtain ⟨h3, h4⟩ := hA
  have hA2 : rgI (q_acc (scoS S t) (extS S t) 8) (-4928) 320 := ⟨by omega, by omega⟩
  by_cases c : q_any (nonS S t) 8 = true ∧ s_jok S t = -6
  · rw [← rea_1 ho ht c.1 c.2]
    obtain ⟨h5, h6⟩ := rg_add hA2 (show rgI (10 : Int32) 10 10 from ⟨by decide, by decide⟩) (by decide) (by decide)
    have e : (10 : Int32).toInt = 10 := by decide
    obtain ⟨h7, h8⟩ := h5
    exact ⟨by omega, by omega, by omega⟩
  · have c2 : q_any (nonS S t) 8 = false ∨ ¬ s_jok S t = -6 := by
      by_cases d : q_any (nonS S t) 8 = true
      · exact Or.inr fun q => c ⟨d, q⟩
      · exact Or.inl (bool_f d)
    rw [← rea_2 ho ht c2, Int32.add_zero]
    obtain ⟨h5, h6⟩ := hA2
    exact ⟨by omega, by omega, by omega⟩
theorem w_th {x : Int32} {a b : Int} (h : rgI x a b) (h1 : -1000000 ≤ a) (h2 : b ≤ 1000000) : (x + 1000).toInt = x.toInt + 1000 := by
  have := (rg_add h w_100 (by omega) (by omega)).2
  have e : (1000 : Int32).toInt = 1000 := by decide
  omega
theorem w_mge {S : q_St} {K : Nat} (ho : q_ok K S) (hK : K ≤ 512) {t : Nat} (ht : t < 10) : ¬ gscS S t + 1000 < scoS S t + 1000 := by
  obtain ⟨h1, h2⟩ := w_gsc ho hK ht
  have e1 := w_th h2 (by decide) (by decide)
  have e2 := w_th (rg_sco ho hK ht) (by decide) (by decide)
  intro q
  have := Int32.lt_iff_toInt_lt.mp q
  omega
theorem w_mlt {S : q_St} {K : Nat} (ho : q_ok K S) (hK : K ≤ 512) {t o : Nat} (ht : t < 10) (h2 : o < 10) : (gscS S t + 1000 < scoS S o + 1000) ↔ ¬ scoS S o ≤ gscS S t := by
  have e1 := w_th (w_gsc ho hK ht).2 (by decide) (by decide)
  have e2 := w_th (rg_sco ho hK h2) (by decide) (by decide)
  rw [Int32.lt_iff_toInt_lt, Int32.le_iff_toInt_le]
  omega
theorem w_slt {S : q_St} {K : Nat} (ho : q_ok K S) (hK : K ≤ 512) {t o : Nat} (ht : t < 10) (h2 : o < 10) : (scoS S t + 1000 < scoS S o + 1000) ↔ scoS S t < scoS S o := by
  have e1 := w_th (rg_sco ho hK ht) (by decide) (by decide)
  have e2 := w_th (rg_sco ho hK h2) (by decide) (by decide)
  rw [Int32.lt_iff_toInt_lt, Int32.lt_iff_toInt_lt]
  omega
theorem w_seq {S : q_St} {K : Nat} (ho : q_ok K S) (hK : K ≤ 512) {t o : Nat} (ht : t < 10) (h2 : o < 10) : (scoS S t + 1000 = scoS S o + 1000) ↔ scoS S t = scoS S o := by
  have e1 := w_th (rg_sco ho hK ht) (by decide) (by decide)
  have e2 := w_th (rg_sco ho hK h2) (by decide) (by decide)
  rw [← Int32.toInt_inj, ← Int32.toInt_inj]
  omega
theorem w_bes {S : q_St} {t : Nat} : ∀ n r : Nat, r < n → swjS S t (nI r) ≤ swjS S t (nI (besS S t n))
  | 0, r, h => absurd h (Nat.not_lt_zero r)
  | n + 1, r, h => by
    show swjS S t (nI r) ≤ swjS S t (nI (if swjS S t (nI n) ≤ swjS S t (nI (besS S t n)) then besS S t n else n))
    have ih := fun q => w_bes (S := S) (t := t) n r q
    by_cases c : swjS S t (nI n) ≤ swjS S t (nI (besS S t n))
    · rw [if_pos c]
      rcases Nat.lt_or_ge r n with d | d
      · exact ih d
      · have e : r = n := by omega
        subst e; exact c
    · rw [if_neg c]
      rcases Nat.lt_or_ge r n with d | d
      · have h1 := Int32.le_iff_toInt_le.mp (ih d)
        have h2 : ¬ (swjS S t (nI n)).toInt ≤ (swjS S t (nI (besS S t n))).toInt := fun q => c (Int32.le_iff_toInt_le.mpr q)
        exact Int32.le_iff_toInt_le.mpr (by omega)
      · have e : r = n := by omega
        subst e; exact Int32.le_refl _
theorem w_wj {S : q_St} {t r q : Nat} (hr : r < 8) (hq : q < 8) (h : s_jok S t = nI r) : wjS S t (nI r) q = ptsS S t q := by
  unfold wjS
  by_cases d : nI q = nI r
  · rw [if_pos d, ← pts_2 (h.trans d.symm), Int32.mul_comm]; rfl
  · rw [if_neg d, ← pts_1 (fun z => d (z.symm.trans h)), Int32.mul_one]; rfl
theorem w_swj_j {S : q_St} {t r : Nat} (hr : r < 8) (h : s_jok S t = nI r) : swjS S t (nI r) = scoS S t :=
  q_acc_congr fun q hq => w_wj hr hq h
theorem w_mkv {S : q_St} {K : Nat} (ho : q_ok K S) {t r : Nat} (ht : t < 10) (hr : r < 8) : rgI (mkvS S t r) (-20) 10 := by
  unfold mkvS
  split
  · next c => exact ok_mr ho ht hr c
  · exact ⟨by decide, by decide⟩
theorem w_swj_0 {S : q_St} {K : Nat} (ho : q_ok K S) {t : Nat} (ht : t < 10) (h : s_jok S t = -6) : swjS S t (nI 0) = scoS S t + mkvS S t 0 := by
  have nj : ∀ q : Nat, q < 8 → ¬ s_jok S t = nI q := fun q hq z => nI_6 (v := q) (by omega) (z.symm.trans h)
  have h1 := q_acc_1 (fineS S t) (ptsS S t) (wjS S t (nI 0)) 0 (mkvS S t 0) 8 (fun q hq h0 => by
    unfold wjS
    rw [if_neg (fun z => h0 ((nI_eq (by omega) (by decide)).mp z)), ← pts_1 (nj q hq), Int32.mul_one]; rfl) (by
    unfold wjS
    rw [if_pos rfl, ← pts_1 (nj 0 (by decide)), Int32.mul_one]
    have e : (2 : Int32) = 1 + 1 := by decide
    show (2 : Int32) * mkvS S t 0 = mkvS S t 0 + mkvS S t 0
    rw [e, Int32.add_mul, Int32.one_mul])
  rw [if_pos (by decide)] at h1
  exact h1
theorem w_best {S : q_St} {K : Nat} (ho : q_ok K S) (hK : K ≤ 512) {t : Nat} (ht : t < 10) : rgI (swjS S t (nI (besS S t 8))) (-4948) 1000 ∧ ((¬ s_jok S t < 0) → ¬ swjS S t (nI (besS S t 8)) + 1000 < scoS S t + 1000 - 0) ∧ ((s_jok S t < 0) → ¬ swjS S t (nI (besS S t 8)) + 1000 < scoS S t + 1000 - 20) := by
  have hs := rg_sco ho hK ht
  have hw : ∀ j : Int32, rgI (swjS S t j) (-4928) 160 := by
    intro j
    have hr : ∀ r : Nat, r < 8 → rgI (wjS S t j r) (-40) 20 := by
      intro r hr
      have hm := w_mkv ho ht hr
      show rgI (if nI r = j then 2 * mkvS S t r else mkvS S t r) (-40) 20
      split
      · exact rg_2 hm (by decide) (by decide)
      · exact ⟨by have := hm.1; omega, by have := hm.2; omega⟩
    have h := rg_acc (rg_fine ho hK ht) (f := wjS S t j) (l := -40) (h := 20) (by decide) (by decide) 8 hr (by decide) (by decide)
    obtain ⟨h1, h2⟩ := h
    show -4928 ≤ (q_acc (fineS S t) (wjS S t j) 8).toInt ∧ (q_acc (fineS S t) (wjS S t j) 8).toInt ≤ 160
    omega
  have hb := hw (nI (besS S t 8))
  have e1 := w_th hb (by decide) (by decide)
  have e2 := w_th hs (by decide) (by decide)
  have r2 : rgI (scoS S t + 1000) (-3928) 1160 := ⟨by have := hs.1; omega, by have := hs.2; omega⟩
  have e3 := rg_sub r2 (show rgI (20 : Int32) 20 20 from ⟨by decide, by decide⟩) (by decide) (by decide)
  have e20 : (20 : Int32).toInt = 20 := by decide
  refine ⟨⟨by have := hb.1; omega, by have := hb.2; omega⟩, fun hj => ?_, fun hj => ?_⟩
  · rcases ok_jok ho ht with q | ⟨r, hr, q⟩
    · exact absurd (by rw [q]; decide) hj
    · have h1 := Int32.le_iff_toInt_le.mp (w_bes (S := S) (t := t) 8 r hr)
      rw [w_swj_j hr q] at h1
      rw [Int32.sub_zero]
      intro z
      have := Int32.lt_iff_toInt_lt.mp z
      omega
  · rcases ok_jok ho ht with q | ⟨r, hr, q⟩
    · have h1 := Int32.le_iff_toInt_le.mp (w_bes (S := S) (t := t) 8 0 (by decide))
      have hm := w_mkv ho ht (r := 0) (by decide)
      have h2 := (rg_add hs hm (by decide) (by decide)).2
      rw [w_swj_0 ho ht q] at h1
      obtain ⟨h3, h4⟩ := hm
      intro z
      have := Int32.lt_iff_toInt_lt.mp z
      omega
    · rw [q] at hj
      exact absurd hj (nI_pos (by omega))
