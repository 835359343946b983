/-! the reference's world, and how it tells the same state -/
abbrev q_MV : Type := (Nat → Int32) × (Nat → Int32) × (Nat → Int32) × (Nat → Int32) × (Nat → Int32) × Nat × Nat
abbrev m_s (M : q_MV) : Nat → Int32 := M.1
abbrev m_bef (M : q_MV) : Nat → Int32 := M.2.1
abbrev m_sav (M : q_MV) : Nat → Int32 := M.2.2.1
abbrev m_iss (M : q_MV) : Nat → Int32 := M.2.2.2.1
abbrev m_pad (M : q_MV) : Nat → Int32 := M.2.2.2.2.1
abbrev m_len (M : q_MV) : Nat := M.2.2.2.2.2.1
abbrev m_st (M : q_MV) : Nat := M.2.2.2.2.2.2
def n_s (M : q_MV) (f : Nat → Int32) : q_MV := (f, M.2)
def n_bef (M : q_MV) (f : Nat → Int32) : q_MV := (M.1, f, M.2.2)
def n_sav (M : q_MV) (f : Nat → Int32) : q_MV := (M.1, M.2.1, f, M.2.2.2)
def n_iss (M : q_MV) (f : Nat → Int32) : q_MV := (M.1, M.2.1, M.2.2.1, f, M.2.2.2.2)
def n_pad (M : q_MV) (f : Nat → Int32) : q_MV := (M.1, M.2.1, M.2.2.1, M.2.2.2.1, f, M.2.2.2.2.2)
def n_len (M : q_MV) (n : Nat) : q_MV := (M.1, M.2.1, M.2.2.1, M.2.2.2.1, M.2.2.2.2.1, n, M.2.2.2.2.2.2)
def n_st (M : q_MV) (n : Nat) : q_MV := (M.1, M.2.1, M.2.2.1, M.2.2.2.1, M.2.2.2.2.1, M.2.2.2.2.2.1, n)
def q_mdW (g : q_G) (d : Nat → Nat) (M : q_MV) : va_W := [(d 0, .inr (4, [.ref (d 1), .ref (d 2), .ref (d 3), .ref (d 4), .ref (d 5), .int (nI (m_len M)), .int (nI (m_st M))])), (d 1, .inl (g.2 0, 1336, .inl (m_s M))), (d 2, .inl (g.2 0, 8016, .inl (m_bef M))), (d 3, .inl (g.2 0, 2672, .inl (m_sav M))), (d 4, .inl (g.2 2, 2, .inl (m_iss M))), (d 5, .inl (g.2 3, 80, .inl (m_pad M)))]
def q_mAd (d : Nat → Nat) (q : Nat) : Prop := ∃ j, j < 6 ∧ q = d j
def q_mInj (d : Nat → Nat) : Prop := ∀ i j, i < 6 → j < 6 → d i = d j → i = j
theorem q_md_at {g : q_G} {d : Nat → Nat} {M : q_MV} {k : Nat} {x : Nat × va_E} (h : (q_mdW g d M)[k]? = some x) : k < 6 ∧ x.1 = d k := by
  match k, h with
  | 0, h => cases h; exact ⟨by omega, rfl⟩
  | 1, h => cases h; exact ⟨by omega, rfl⟩
  | 2, h => cases h; exact ⟨by omega, rfl⟩
  | 3, h => cases h; exact ⟨by omega, rfl⟩
  | 4, h => cases h; exact ⟨by omega, rfl⟩
  | 5, h => cases h; exact ⟨by omega, rfl⟩
  | k + 6, h => simp [q_mdW] at h
theorem q_mD {g : q_G} {d : Nat → Nat} {M : q_MV} {A : Nat → Prop} (hJ : q_mInj d) (hA : ∀ q, q_mAd d q → A q) : va_D A (q_mdW g d M) := by
  refine ⟨fun i j p q hi hj hpq => ?_, fun k q hk => ?_⟩
  · have h1 := q_md_at hi
    have h2 := q_md_at hj
    exact hJ i j h1.1 h2.1 (by rw [← h1.2, ← h2.2, hpq])
  · have h1 := q_md_at hk
    exact hA _ ⟨k, h1.1, h1.2⟩
def jkI (x : Int32) : Int32 := if x = -6 then 0 else x + 1
def jm (x : Int32) : Int32 := if x = -6 then -1 else x
def anI (x : Int32) : Int32 := if x = 15 then -1 else x
/-- the reference's row f tells the state S -/
def q_cp (S : q_St) (f : Nat → Int32) : Prop :=
  (∀ k, k < 4 → f k = s_set S k) ∧ f 4 = nI (s_n S) ∧ f 5 = bI (!decide (s_tru S = -6)) ∧ (¬ s_tru S = -6 → f 6 = s_tru S) ∧ f 7 = looA S ∧
  (∀ r, r < 8 → f (8 + 11 * r) = bI (!isOp S r)) ∧ (∀ r, r < 8 → isOp S r = false → ∀ k, k < 10 → f (8 + 11 * r + 1 + k) = sgn (s_key S r) k) ∧
  (∀ t, t < 10 → f (96 + 4 * t) = s_paid S t ∧ f (96 + 4 * t + 1) = jkI (s_jok S t) ∧ f (96 + 4 * t + 2) = s_fin S t ∧ f (96 + 4 * t + 3) = jkI (s_gue S t)) ∧
  (∀ t r, t < 10 → r < 8 → f (136 + 15 * (t * 8 + r)) = bI (hasS S t r) ∧ f (136 + 15 * (t * 8 + r) + 1) = bI (tldS S t r) ∧ (tldS S t r = true → f (136 + 15 * (t * 8 + r) + 2) = s_mar S (t * 8 + r) ∧ f (136 + 15 * (t * 8 + r) + 3) = s_mkr S (t * 8 + r)) ∧ f (136 + 15 * (t * 8 + r) + 4) = bI (lokS S t r) ∧ (hasS S t r = true → ∀ k, k < 10 → f (136 + 15 * (t * 8 + r) + 5 + k) = anI (sgn (s_she S (t * 8 + r)) k)))
/-- what holds of every state that the class comes to; K bounds the fines -/
def q_ok (K : Nat) (S : q_St) : Prop :=
  s_n S ≤ 10 ∧ (∀ t, t < 10 → ∃ j, j ≤ K ∧ s_fin S t = nI j) ∧
  (∀ t r, t < 10 → r < 8 → tldS S t r = true → (∃ m, m < s_n S ∧ s_mkr S (t * 8 + r) = nI m) ∧ hasS S t r = true ∧ isOp S r = false ∧ -20 ≤ (s_mar S (t * 8 + r)).toInt ∧ (s_mar S (t * 8 + r)).toInt ≤ 10) ∧
  (∀ t r, t < 10 → r < 8 → lokS S t r = true → tldS S t r = true) ∧ (∀ r, r < 8 → s_loo S r = q_or (fun t => lokS S t r) (s_n S)) ∧
  (∀ t, t < 10 → s_jok S t = -6 ∨ ∃ r, r < 8 ∧ s_jok S t = nI r) ∧ (∀ t, t < 10 → s_gue S t = -6 ∨ ∃ v, v ≤ 9999 ∧ s_gue S t = nI v) ∧ (s_tru S = -6 ∨ ∃ v, v ≤ 9999 ∧ s_tru S = nI v) ∧
  (∃ v, v ≤ 2 ∧ s_set S 2 = nI v) ∧ (∃ v, v ≤ 9 ∧ s_set S 3 = nI v) ∧
  (∀ r, r < 8 → isOp S r = false → ∀ k, k < 10 → ∃ d, d ≤ 9 ∧ sgn (s_key S r) k = nI d) ∧ (∀ t r, t < 10 → r < 8 → hasS S t r = true → ∀ k, k < 10 → sgn (s_she S (t * 8 + r)) k = 15 ∨ ∃ d, d ≤ 9 ∧ sgn (s_she S (t * 8 + r)) k = nI d) ∧
  (∀ t, s_n S ≤ t → t < 10 → ∀ r, r < 8 → hasS S t r = false)
theorem cp_set {S : q_St} {f : Nat → Int32} (hc : q_cp S f) {k : Nat} (hk : k < 4) : f k = s_set S k := hc.1 k hk
theorem cp_n {S : q_St} {f : Nat → Int32} (hc : q_cp S f) : f 4 = nI (s_n S) := hc.2.1
theorem cp_told {S : q_St} {f : Nat → Int32} (hc : q_cp S f) : f 5 = bI (!decide (s_tru S = -6)) := hc.2.2.1
theorem cp_tru {S : q_St} {f : Nat → Int32} (hc : q_cp S f) (h : ¬ s_tru S = -6) : f 6 = s_tru S := hc.2.2.2.1 h
theorem cp_loks {S : q_St} {f : Nat → Int32} (hc : q_cp S f) : f 7 = looA S := hc.2.2.2.2.1
theorem cp_op {S : q_St} {f : Nat → Int32} (hc : q_cp S f) {r : Nat} (hr : r < 8) : f (8 + 11 * r) = bI (!isOp S r) := hc.2.2.2.2.2.1 r hr
theorem cp_key {S : q_St} {f : Nat → Int32} (hc : q_cp S f) {r k : Nat} (hr : r < 8) (h : isOp S r = false) (hk : k < 10) : f (8 + 11 * r + 1 + k) = sgn (s_key S r) k := hc.2.2.2.2.2.2.1 r hr h k hk
theorem cp_paid {S : q_St} {f : Nat → Int32} (hc : q_cp S f) {t : Nat} (ht : t < 10) : f (96 + 4 * t) = s_paid S t := (hc.2.2.2.2.2.2.2.1 t ht).1
theorem cp_jok {S : q_St} {f : Nat → Int32} (hc : q_cp S f) {t : Nat} (ht : t < 10) : f (96 + 4 * t + 1) = jkI (s_jok S t) := (hc.2.2.2.2.2.2.2.1 t ht).2.1
theorem cp_fin {S : q_St} {f : Nat → Int32} (hc : q_cp S f) {t : Nat} (ht : t < 10) : f (96 + 4 * t + 2) = s_fin S t := (hc.2.2.2.2.2.2.2.1 t ht).2.2.1
theorem cp_gue {S : q_St} {f : Nat → Int32} (hc : q_cp S f) {t : Nat} (ht : t < 10) : f (96 + 4 * t + 3) = jkI (s_gue S t) := (hc.2.2.2.2.2.2.2.1 t ht).2.2.2
theorem cp_has {S : q_St} {f : Nat → Int32} (hc : q_cp S f) {t r : Nat} (ht : t < 10) (hr : r < 8) : f (136 + 15 * (t * 8 + r)) = bI (hasS S t r) := (hc.2.2.2.2.2.2.2.2 t r ht hr).1
theorem cp_tld {S : q_St} {f : Nat → Int32} (hc : q_cp S f) {t r : Nat} (ht : t < 10) (hr : r < 8) : f (136 + 15 * (t * 8 + r) + 1) = bI (tldS S t r) := (hc.2.2.2.2.2.2.2.2 t r ht hr).2.1
theorem cp_mar {S : q_St} {f : Nat → Int32} (hc : q_cp S f) {t r : Nat} (ht : t < 10) (hr : r < 8) (h : tldS S t r = true) : f (136 + 15 * (t * 8 + r) + 2) = s_mar S (t * 8 + r) := ((hc.2.2.2.2.2.2.2.2 t r ht hr).2.2.1 h).1
theorem cp_mkr {S : q_St} {f : Nat → Int32} (hc : q_cp S f) {t r : Nat} (ht : t < 10) (hr : r < 8) (h : tldS S t r = true) : f (136 + 15 * (t * 8 + r) + 3) = s_mkr S (t * 8 + r) := ((hc.2.2.2.2.2.2.2.2 t r ht hr).2.2.1 h).2
theorem cp_lok {S : q_St} {f : Nat → Int32} (hc : q_cp S f) {t r : Nat} (ht : t < 10) (hr : r < 8) : f (136 + 15 * (t * 8 + r) + 4) = bI (lokS S t r) := (hc.2.2.2.2.2.2.2.2 t r ht hr).2.2.2.1
theorem cp_ans {S : q_St} {f : Nat → Int32} (hc : q_cp S f) {t r k : Nat} (ht : t < 10) (hr : r < 8) (h : hasS S t r = true) (hk : k < 10) : f (136 + 15 * (t * 8 + r) + 5 + k) = anI (sgn (s_she S (t * 8 + r)) k) := (hc.2.2.2.2.2.2.2.2 t r ht hr).2.2.2.2 h k hk
theorem ok_n {S : q_St} {K : Nat} (ho : q_ok K S) : s_n S ≤ 10 := ho.1
theorem ok_fin {S : q_St} {K : Nat} (ho : q_ok K S) {t : Nat} (ht : t < 10) : ∃ j, j ≤ K ∧ s_fin S t = nI j := ho.2.1 t ht
theorem ok_mk {S : q_St} {K : Nat} (ho : q_ok K S) {t r : Nat} (ht : t < 10) (hr : r < 8) (h : tldS S t r = true) : ∃ m, m < s_n S ∧ s_mkr S (t * 8 + r) = nI m := (ho.2.2.1 t r ht hr h).1
theorem ok_th {S : q_St} {K : Nat} (ho : q_ok K S) {t r : Nat} (ht : t < 10) (hr : r < 8) (h : tldS S t r = true) : hasS S t r = true := (ho.2.2.1 t r ht hr h).2.1
theorem ok_to {S : q_St} {K : Nat} (ho : q_ok K S) {t r : Nat} (ht : t < 10) (hr : r < 8) (h : tldS S t r = true) : isOp S r = false := (ho.2.2.1 t r ht hr h).2.2.1
theorem ok_mr {S : q_St} {K : Nat} (ho : q_ok K S) {t r : Nat} (ht : t < 10) (hr : r < 8) (h : tldS S t r = true) : -20 ≤ (s_mar S (t * 8 + r)).toInt ∧ (s_mar S (t * 8 + r)).toInt ≤ 10 := (ho.2.2.1 t r ht hr h).2.2.2
theorem ok_lt {S : q_St} {K : Nat} (ho : q_ok K S) {t r : Nat} (ht : t < 10) (hr : r < 8) (h : lokS S t r = true) : tldS S t r = true := ho.2.2.2.1 t r ht hr h
theorem ok_loo {S : q_St} {K : Nat} (ho : q_ok K S) {r : Nat} (hr : r < 8) : s_loo S r = q_or (fun t => lokS S t r) (s_n S) := ho.2.2.2.2.1 r hr
theorem ok_jok {S : q_St} {K : Nat} (ho : q_ok K S) {t : Nat} (ht : t < 10) : s_jok S t = -6 ∨ ∃ r, r < 8 ∧ s_jok S t = nI r := ho.2.2.2.2.2.1 t ht
theorem ok_gue {S : q_St} {K : Nat} (ho : q_ok K S) {t : Nat} (ht : t < 10) : s_gue S t = -6 ∨ ∃ v, v ≤ 9999 ∧ s_gue S t = nI v := ho.2.2.2.2.2.2.1 t ht
theorem ok_tru {S : q_St} {K : Nat} (ho : q_ok K S) : s_tru S = -6 ∨ ∃ v, v ≤ 9999 ∧ s_tru S = nI v := ho.2.2.2.2.2.2.2.1
theorem ok_s2 {S : q_St} {K : Nat} (ho : q_ok K S) : ∃ v, v ≤ 2 ∧ s_set S 2 = nI v := ho.2.2.2.2.2.2.2.2.1
theorem ok_s3 {S : q_St} {K : Nat} (ho : q_ok K S) : ∃ v, v ≤ 9 ∧ s_set S 3 = nI v := ho.2.2.2.2.2.2.2.2.2.1
theorem ok_key {S : q_St} {K : Nat} (ho : q_ok K S) {r k : Nat} (hr : r < 8) (h : isOp S r = false) (hk : k < 10) : ∃ d, d ≤ 9 ∧ sgn (s_key S r) k = nI d := ho.2.2.2.2.2.2.2.2.2.2.1 r hr h k hk
theorem ok_she {S : q_St} {K : Nat} (ho : q_ok K S) {t r k : Nat} (ht : t < 10) (hr : r < 8) (h : hasS S t r = true) (hk : k < 10) : sgn (s_she S (t * 8 + r)) k = 15 ∨ ∃ d, d ≤ 9 ∧ sgn (s_she S (t * 8 + r)) k = nI d := ho.2.2.2.2.2.2.2.2.2.2.2.1 t r ht hr h k hk
theorem ok_out {S : q_St} {K : Nat} (ho : q_ok K S) {t r : Nat} (h : s_n S ≤ t) (ht : t < 10) (hr : r < 8) : hasS S t r = false := ho.2.2.2.2.2.2.2.2.2.2.2.2 t h ht r hr
theorem ok_ntl {S : q_St} {K : Nat} (ho : q_ok K S) {t r : Nat} (ht : t < 10) (hr : r < 8) (h : hasS S t r = false) : tldS S t r = false := by
  cases c : tldS S t r with
  | false => rfl
  | true => rw [ok_th ho ht hr c] at h; cases h
theorem bI_e1 {b : Bool} (h : bI b = 1) : b = true := by cases b with | true => rfl | false => exact absurd h (by decide)
theorem bI_n1 {b : Bool} (h : ¬ bI b = 1) : b = false := by cases b with | false => rfl | true => exact absurd rfl h
theorem nI_6 {v : Nat} (h : v < 2 ^ 30) : ¬ nI v = -6 := fun q => by
  have := congrArg Int32.toInt q
  rw [nI_toInt (by omega)] at this
  have e : (-6 : Int32).toInt = -6 := by decide
  rw [e] at this; omega
theorem jk_t {x : Int32} {r : Nat} (hx : x = -6 ∨ ∃ r, r < 8 ∧ x = nI r) (hr : r < 8) (h : jkI x = nI (r + 1)) : x = nI r := by
  rcases hx with rfl | ⟨v, hv, rfl⟩
  · exact absurd h (fun q => nI_ne0 (n := r + 1) (by omega) (by omega) q.symm)
  · unfold jkI at h
    rw [if_neg (nI_6 (by omega)), nI_1, nI_eq (by omega) (by omega)] at h
    rw [show v = r from by omega]
theorem jk_f {x : Int32} {r : Nat} (hr : r < 8) (h : ¬ jkI x = nI (r + 1)) : ¬ x = nI r := by
  rintro rfl
  refine h ?_
  unfold jkI
  rw [if_neg (nI_6 (by omega)), nI_1]
theorem jk_0 {x : Int32} (hx : x = -6 ∨ ∃ r, r ≤ 9999 ∧ x = nI r) (h : jkI x = 0) : x = -6 := by
  rcases hx with rfl | ⟨v, hv, rfl⟩
  · rfl
  · unfold jkI at h
    rw [if_neg (nI_6 (by omega)), nI_1] at h
    exact absurd h (nI_ne0 (by omega) (by omega))
theorem jk_n0 {x : Int32} (h : ¬ jkI x = 0) : ¬ x = -6 := by rintro rfl; exact h rfl
theorem jk_p {x : Int32} (hx : x = -6 ∨ ∃ r, r ≤ 9999 ∧ x = nI r) (h : ¬ x = -6) : 0 < jkI x := by
  rcases hx with rfl | ⟨v, hv, rfl⟩
  · exact absurd rfl h
  · unfold jkI
    rw [if_neg h, nI_1]
    exact nI_lt (a := 0) (by omega) (by omega)
theorem jk_wk {x : Int32} (hx : x = -6 ∨ ∃ r, r < 8 ∧ x = nI r) : x = -6 ∨ ∃ r, r ≤ 9999 ∧ x = nI r := hx.imp id fun ⟨r, h, e⟩ => ⟨r, by omega, e⟩
theorem jk_m (x : Int32) : jkI x - 1 = jm x := by
  unfold jkI jm
  by_cases h : x = -6
  · rw [if_pos h, if_pos h]; decide
  · rw [if_neg h, if_neg h, Int32.add_sub_cancel]
theorem jm_n {x : Int32} (h : ¬ x = -6) : jm x = x := if_neg h
theorem jm_lt {x : Int32} (hx : x = -6 ∨ ∃ r, r ≤ 9999 ∧ x = nI r) (h : ¬ 0 ≤ jm x) : x = -6 := by
  rcases hx with rfl | ⟨v, hv, rfl⟩
  · rfl
  · rw [jm_n (nI_6 (by omega))] at h
    exact absurd (nI_pos' (by omega)) h
theorem jm_ge {x : Int32} (h : 0 ≤ jm x) : ¬ x = -6 := by rintro rfl; exact absurd h (by decide)
theorem an_ge {x : Int32} (hx : x = 15 ∨ ∃ d, d ≤ 9 ∧ x = nI d) (h : 0 ≤ anI x) : ¬ x = 15 ∧ anI x = x := by
  rcases hx with rfl | ⟨v, hv, rfl⟩
  · exact absurd h (by decide)
  · have e : ¬ nI v = 15 := fun q => by have := (nI_eq (a := v) (b := 15) (by omega) (by decide)).mp q; omega
    exact ⟨e, if_neg e⟩
theorem an_lt {x : Int32} (hx : x = 15 ∨ ∃ d, d ≤ 9 ∧ x = nI d) (h : ¬ 0 ≤ anI x) : x = 15 := by
  rcases hx with rfl | ⟨v, hv, rfl⟩
  · rfl
  · have e : ¬ nI v = 15 := fun q => by have := (nI_eq (a := v) (b := 15) (by omega) (by decide)).mp q; omega
    rw [show anI (nI v) = nI v from if_neg e] at h
    exact absurd (nI_pos' (by omega)) h
def inR (v lo hi : Int32) : Bool := !decide (v < lo) && !decide (hi < v)
theorem inTm {S : q_St} {x : Int32} (hn : s_n S ≤ 10) : inR x 0 (nI (s_n S) - 1) = isTm S x := by
  unfold inR isTm
  by_cases h : x < 0
  · rw [decide_eq_true h]; rfl
  · obtain ⟨v, hv, rfl⟩ := nI_of h
    rw [decide_eq_false h]
    show (true && !decide (nI (s_n S) - 1 < nI v)) = (true && !decide (nI (s_n S) ≤ nI v) && !decide (nI 10 ≤ nI v))
    have e1 : (nI (s_n S) - 1 < nI v) ↔ s_n S ≤ v := by
      rcases Nat.eq_zero_or_pos (s_n S) with z | z
      · rw [z]
        exact ⟨fun _ => Nat.zero_le v, fun _ => Int32.lt_of_lt_of_le (b := 0) (by decide) (nI_pos' hv)⟩
      · rw [show nI (s_n S) - 1 = nI (s_n S - 1) from pk_sub (b := 1) z, nI_ltI (by omega) hv]
        omega
    have e2 : (nI (s_n S) ≤ nI v) ↔ s_n S ≤ v := nI_leI (by omega) hv
    have e3 : (nI 10 ≤ nI v) ↔ 10 ≤ v := nI_leI (by decide) hv
    simp only [e1, e2, e3]
    by_cases k : s_n S ≤ v
    · simp [k]
    · simp [k]; omega
theorem inRd (x : Int32) : inR x 0 7 = isRd x := by
  unfold inR isRd
  by_cases h : x < 0
  · rw [decide_eq_true h]; rfl
  · obtain ⟨v, hv, rfl⟩ := nI_of h
    rw [decide_eq_false h]
    have e1 : ((7 : Int32) < nI v) ↔ 7 < v := nI_ltI (a := 7) (by decide) hv
    have e2 : ((8 : Int32) ≤ nI v) ↔ 8 ≤ v := nI_leI (a := 8) (by decide) hv
    simp only [e1, e2]
    by_cases k : 7 < v
    · simp [k]; omega
    · simp [k]; omega
theorem inSl (x : Int32) : inR x 0 1 = isSl x := by
  unfold inR isSl
  by_cases h : x < 0
  · rw [decide_eq_true h]; rfl
  · obtain ⟨v, hv, rfl⟩ := nI_of h
    rw [decide_eq_false h]
    have e1 : ((1 : Int32) < nI v) ↔ 1 < v := nI_ltI (a := 1) (by decide) hv
    have e2 : ((2 : Int32) ≤ nI v) ↔ 2 ≤ v := nI_leI (a := 2) (by decide) hv
    simp only [e1, e2]
    by_cases k : 1 < v
    · simp [k]; omega
    · simp [k]; omega
def mkvS (S : q_St) (t r : Nat) : Int32 := if tldS S t r = true then s_mar S (t * 8 + r) else 0
theorem tld_iff {S : q_St} {t r : Nat} : tldS S t r = true ↔ ¬ s_mkr S (t * 8 + r) = -6 := by unfold tldS; exact decide_eq_true_iff
theorem pts_2 {S : q_St} {t r : Nat} (h : s_jok S t = nI r) : mkvS S t r * 2 = ptsS S t r := by
  unfold mkvS ptsS withJ
  by_cases c : tldS S t r = true
  · rw [if_pos c, if_neg (tld_iff.mp c), if_pos h, Int32.mul_comm]
  · have d : s_mkr S (t * 8 + r) = -6 := Classical.byContradiction fun q => c (tld_iff.mpr q)
    rw [if_neg c, if_pos d]; decide
theorem pts_1 {S : q_St} {t r : Nat} (h : ¬ s_jok S t = nI r) : mkvS S t r * 1 = ptsS S t r := by
  unfold mkvS ptsS withJ
  by_cases c : tldS S t r = true
  · rw [if_pos c, if_neg (tld_iff.mp c), if_neg h, Int32.mul_one]
  · have d : s_mkr S (t * 8 + r) = -6 := Classical.byContradiction fun q => c (tld_iff.mpr q)
    rw [if_neg c, if_pos d]; decide
def bitI (x : Int32) : Int32 := q_acc 0 (fun k => (x >>> (nI k &&& 31)) &&& 1) 10
theorem q_bitb : ∀ n : Fin 10, ∀ m : Fin (2 ^ n.val), bitI (nI (m.val + 2 ^ n.val)) = bitI (nI m.val) + 1 := by decide +kernel
theorem q_bitN (f : Nat → Bool) : ∀ n : Nat, n ≤ 10 → bitI (q_or f n) = nI (q_cnt f n)
  | 0, _ => by show bitI 0 = 0; decide
  | n + 1, h => by
    have ih := q_bitN f n (by omega)
    obtain ⟨m, h1, h2, -⟩ := q_orN f n (by omega)
    by_cases c : f n = true
    · have b1 := (q_bits ⟨n, by omega⟩ ⟨m, h1⟩).1
      have b2 := q_bitb ⟨n, by omega⟩ ⟨m, h1⟩
      have e : q_or f (n + 1) = nI (m + 2 ^ n) := by simp only [q_or, c, if_true, h2]; exact b1
      rw [e, show bitI (nI (m + 2 ^ n)) = bitI (nI m) + 1 from b2, ← h2, ih, nI_1]
      simp [q_cnt, c]
    · have e : q_or f (n + 1) = q_or f n := by simp [q_or, c]
      rw [e, ih]; simp [q_cnt, c]
theorem q_bitL (f : Nat → Bool) (t n : Nat) (h1 : t ≤ n) (ht : t < 10) (h2 : n ≤ 10) : bitI (lowM (q_or f n) t) = nI (q_cnt f t) := by
  rw [q_lowN f t ht n h1 h2, q_bitN f t (by omega)]
def farS (S : q_St) (t : Nat) : Int32 := if s_gue S t = -6 then 100000 else if s_tru S < s_gue S t then s_gue S t - s_tru S else s_tru S - s_gue S t
def tem1 (S : q_St) (r : Nat) (w : Int32) (t : Nat) : Bool := if w = 2 then decide (s_jok S t = nI r) else if w = 1 then hasS S t r else if w = 3 then tldS S t r else lokS S t r
def rds1 (S : q_St) (t : Nat) (w : Int32) (r : Nat) : Bool := if w = 6 then hasS S t r else tldS S t r
/-! ranges of scores -/
def rgI (x : Int32) (a b : Int) : Prop := a ≤ x.toInt ∧ x.toInt ≤ b
theorem rg_add {x y : Int32} {a b c d : Int} (h1 : rgI x a b) (h2 : rgI y c d) (hl : -2147483648 ≤ a + c) (hu : b + d ≤ 2147483647) : rgI (x + y) (a + c) (b + d) ∧ (x + y).toInt = x.toInt + y.toInt := by
  obtain ⟨p1, p2⟩ := h1
  obtain ⟨p3, p4⟩ := h2
  have e : (x + y).toInt = x.toInt + y.toInt := by
    rw [Int32.toInt_add]
    exact Int.bmod_eq_of_le (by omega) (by omega)
  exact ⟨⟨by omega, by omega⟩, e⟩
theorem rg_sub {x y : Int32} {a b c d : Int} (h1 : rgI x a b) (h2 : rgI y c d) (hl : -2147483648 ≤ a - d) (hu : b - c ≤ 2147483647) : (x - y).toInt = x.toInt - y.toInt := by
  obtain ⟨p1, p2⟩ := h1
  obtain ⟨p3, p4⟩ := h2
  rw [Int32.toInt_sub]
  exact Int.bmod_eq_of_le (by omega) (by omega)
theorem rg_acc {a : Int32} {f : Nat → Int32} {lo hi l h : Int} (ha : rgI a lo hi) (hl0 : l ≤ 0) (hh0 : 0 ≤ h) : ∀ n : Nat, (∀ k, k < n → rgI (f k) l h) → -2147483648 ≤ lo + l * n → hi + h * n ≤ 2147483647 → rgI (q_acc a f n) (lo + l * n) (hi + h * n)
  | 0, _, _, _ => by simpa [q_acc] using ha
  | n + 1, hf, h1, h2 => by
    have e1 : l * ((n + 1 : Nat) : Int) = l * n + l := by rw [Int.natCast_succ, Int.mul_add, Int.mul_one]
    have e2 : h * ((n + 1 : Nat) : Int) = h * n + h := by rw [Int.natCast_succ, Int.mul_add, Int.mul_one]
    rw [e1] at h1 ⊢
    rw [e2] at h2 ⊢
    have ih := rg_acc (f := f) ha hl0 hh0 n (fun k hk => hf k (by omega)) (by omega) (by omega)
    have := (rg_add ih (hf n (by omega)) (by omega) (by omega)).1
    show rgI (q_acc a f n + f n) _ _
    exact ⟨by have := this.1; omega, by have := this.2; omega⟩
theorem rg_2 {x : Int32} {a b : Int} (h : rgI x a b) (h1 : -1000000000 ≤ a) (h2 : b ≤ 1000000000) : rgI (2 * x) (2 * a) (2 * b) := by
  have e : 2 * x = x + x := by
    have : (2 : Int32) = 1 + 1 := by decide
    rw [this, Int32.add_mul, Int32.one_mul]
  rw [e]
  have := (rg_add h h (by omega) (by omega)).1
  exact ⟨by have := this.1; omega, by have := this.2; omega⟩
theorem rg_nI {n : Nat} (h : n < 2 ^ 31) {b : Int} (hb : (n : Int) ≤ b) : rgI (nI n) 0 b := by
  unfold rgI
  rw [nI_toInt h]
  omega
theorem rg_fine {S : q_St} {K : Nat} (ho : q_ok K S) (hK : K ≤ 512) {t : Nat} (ht : t < 10) : rgI (fineS S t) (-4608) 0 := by
  obtain ⟨v, hv, e1⟩ := ok_s3 ho
  obtain ⟨j, hj, e2⟩ := ok_fin ho ht
  unfold fineS
  rw [e1, e2, Int32.neg_mul, pk_mul]
  have h : v * j ≤ 9 * 512 := Nat.mul_le_mul hv (by omega)
  have e3 : (-nI (v * j)).toInt = -((v * j : Nat) : Int) := sb_negT (by omega)
  unfold rgI
  rw [e3]
  omega
theorem rg_pts {S : q_St} {K : Nat} (ho : q_ok K S) {t r : Nat} (ht : t < 10) (hr : r < 8) : rgI (ptsS S t r) (-40) 20 := by
  unfold ptsS withJ
  split
  · exact ⟨by decide, by decide⟩
  · next c =>
    have h := ok_mr ho ht hr (tld_iff.mpr c)
    split
    · exact rg_2 (a := -20) (b := 10) h (by decide) (by decide)
    · exact ⟨by have := h.1; omega, by have := h.2; omega⟩
theorem rg_sco {S : q_St} {K : Nat} (ho : q_ok K S) (hK : K ≤ 512) {t : Nat} (ht : t < 10) : rgI (scoS S t) (-4928) 160 :=
  rg_acc (l := -40) (h := 20) (rg_fine ho hK ht) (by decide) (by decide) 8 (fun _ hk => rg_pts ho ht hk) (by decide) (by decide)
theorem ahe_pos {S : q_St} {K : Nat} (ho : q_ok K S) (hK : K ≤ 512) {t o : Nat} (ht : t < 10) (h2 : o < 10) : (0 < scoS S t - scoS S o ↔ scoS S o < scoS S t) ∧ (scoS S t - scoS S o = 0 ↔ scoS S t = scoS S o) := by
  have e := rg_sub (rg_sco ho hK ht) (rg_sco ho hK h2) (by decide) (by decide)
  constructor
  · rw [Int32.lt_iff_toInt_lt, Int32.lt_iff_toInt_lt, e, show (0 : Int32).toInt = 0 from by decide]; omega
  · rw [← Int32.toInt_inj, ← Int32.toInt_inj, e, show (0 : Int32).toInt = 0 from by decide]; omega
theorem ahe_1 {S : q_St} {K : Nat} (ho : q_ok K S) (hK : K ≤ 512) {t o : Nat} (ht : t < 10) (h2 : o < 10) (h : scoS S o < scoS S t) : aheS S t o = true := by
  unfold aheS
  rw [decide_eq_true ((ahe_pos ho hK ht h2).1.mpr h)]; rfl
theorem ahe_2 {S : q_St} {K : Nat} (ho : q_ok K S) (hK : K ≤ 512) {t o : Nat} (ht : t < 10) (h2 : o < 10) (h : ¬ scoS S o < scoS S t) (h1 : ¬ scoS S t = scoS S o) : aheS S t o = false := by
  unfold aheS
  rw [decide_eq_false (fun q => h ((ahe_pos ho hK ht h2).1.mp q)), decide_eq_false (fun q => h1 ((ahe_pos ho hK ht h2).2.mp q))]; rfl
theorem ahe_3 {S : q_St} {K : Nat} (ho : q_ok K S) (hK : K ≤ 512) {t o : Nat} (ht : t < 10) (h2 : o < 10) (h : ¬ scoS S o < scoS S t) (h1 : scoS S t = scoS S o) : aheS S t o = !decide (distS S o ≤ distS S t) := by
  unfold aheS
  rw [decide_eq_false (fun q => h ((ahe_pos ho hK ht h2).1.mp q)), decide_eq_true ((ahe_pos ho hK ht h2).2.mpr h1)]; rfl
theorem dist_n {S : q_St} (h : s_tru S = -6) (t : Nat) : distS S t = 10000 := if_pos h
theorem dist_far {S : q_St} {K : Nat} (ho : q_ok K S) (h : ¬ s_tru S = -6) {t : Nat} (ht : t < 10) : (∃ v, v ≤ 9999 ∧ distS S t = nI v ∧ farS S t = nI v) ∨ (distS S t = 10000 ∧ farS S t = 100000) := by
  rcases ok_tru ho with e | ⟨u, hu, e⟩
  · exact absurd e h
  · rcases ok_gue ho ht with e2 | ⟨v, hv, e2⟩
    · right
      unfold distS farS
      rw [if_neg h, if_pos e2, if_pos e2]
      exact ⟨rfl, rfl⟩
    · left
      have n6 : ¬ s_gue S t = -6 := by rw [e2]; exact nI_6 (by omega)
      unfold distS farS
      rw [if_neg h, if_neg n6, if_neg n6, e, e2]
      rcases Nat.lt_or_ge u v with c | c
      · refine ⟨v - u, by omega, ?_, ?_⟩
        · rw [pk_sub (by omega), if_pos (nI_pos' (by omega))]
        · rw [if_pos (nI_lt c (by omega)), pk_sub (by omega)]
      · refine ⟨u - v, by omega, ?_, ?_⟩
        · rcases Nat.eq_or_lt_of_le c with d | d
          · subst d; rw [pk_sub (Nat.le_refl _), Nat.sub_self]; decide
          · rw [if_neg (Int32.not_le.mpr (pk_sneg (by omega) d)), show (0 : Int32) = nI 0 from rfl]
            refine Int32.toInt_inj.mp ?_
            have h1 : (nI v - nI u).toInt = (v : Int) - u := pk_sub_toInt (by omega) (by omega)
            have h2 : (nI 0 - (nI v - nI u)).toInt = (nI 0).toInt - (nI v - nI u).toInt := rg_sub (a := 0) (b := 0) (c := -10000) (d := 10000) (by unfold rgI; decide) (by unfold rgI; omega) (by decide) (by decide)
            rw [h2, h1, nI_toInt (by omega), nI_toInt (by omega)]
            omega
        · rw [if_neg (nI_nlt c (by omega)), pk_sub c]
theorem dist_lt {S : q_St} {K : Nat} (ho : q_ok K S) (h : ¬ s_tru S = -6) {t o : Nat} (ht : t < 10) (h2 : o < 10) : farS S o ≤ farS S t ↔ distS S o ≤ distS S t := by
  rcases dist_far ho h ht with ⟨v, hv, e1, e2⟩ | ⟨e1, e2⟩ <;> rcases dist_far ho h h2 with ⟨u, hu, e3, e4⟩ | ⟨e3, e4⟩
  · rw [e1, e2, e3, e4]
  · rw [e1, e2, e3, e4, show (100000 : Int32) = nI 100000 from rfl, show (10000 : Int32) = nI 10000 from rfl, nI_leI (by decide) (by omega), nI_leI (by decide) (by omega)]; omega
  · rw [e1, e2, e3, e4, show (100000 : Int32) = nI 100000 from rfl, show (10000 : Int32) = nI 10000 from rfl, nI_leI (by omega) (by decide), nI_leI (by omega) (by decide)]; omega
  · rw [e1, e2, e3, e4]; exact ⟨fun _ => Int32.le_refl _, fun _ => Int32.le_refl _⟩
