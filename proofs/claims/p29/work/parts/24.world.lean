/-! the whole of the class: its world, blocks of it, and methods that write in it -/
def u_set (S : q_St) (f : Nat → Int32) : q_St := (f, S.2)
def u_paid (S : q_St) (f : Nat → Int32) : q_St := (S.1, f, S.2.2)
def u_jok (S : q_St) (f : Nat → Int32) : q_St := (S.1, S.2.1, f, S.2.2.2)
def u_fin (S : q_St) (f : Nat → Int32) : q_St := (S.1, S.2.1, S.2.2.1, f, S.2.2.2.2)
def u_gue (S : q_St) (f : Nat → Int32) : q_St := (S.1, S.2.1, S.2.2.1, S.2.2.2.1, f, S.2.2.2.2.2)
def u_key (S : q_St) (f : Nat → Int64) : q_St := (S.1, S.2.1, S.2.2.1, S.2.2.2.1, S.2.2.2.2.1, f, S.2.2.2.2.2.2)
def u_she (S : q_St) (f : Nat → Int64) : q_St := (S.1, S.2.1, S.2.2.1, S.2.2.2.1, S.2.2.2.2.1, S.2.2.2.2.2.1, f, S.2.2.2.2.2.2.2)
def u_mar (S : q_St) (f : Nat → Int32) : q_St := (S.1, S.2.1, S.2.2.1, S.2.2.2.1, S.2.2.2.2.1, S.2.2.2.2.2.1, S.2.2.2.2.2.2.1, f, S.2.2.2.2.2.2.2.2)
def u_mkr (S : q_St) (f : Nat → Int32) : q_St := (S.1, S.2.1, S.2.2.1, S.2.2.2.1, S.2.2.2.2.1, S.2.2.2.2.2.1, S.2.2.2.2.2.2.1, S.2.2.2.2.2.2.2.1, f, S.2.2.2.2.2.2.2.2.2)
def u_loo (S : q_St) (f : Nat → Int32) : q_St := (S.1, S.2.1, S.2.2.1, S.2.2.2.1, S.2.2.2.2.1, S.2.2.2.2.2.1, S.2.2.2.2.2.2.1, S.2.2.2.2.2.2.2.1, S.2.2.2.2.2.2.2.2.1, f, S.2.2.2.2.2.2.2.2.2.2)
def u_n (S : q_St) (n : Nat) : q_St := (S.1, S.2.1, S.2.2.1, S.2.2.2.1, S.2.2.2.2.1, S.2.2.2.2.2.1, S.2.2.2.2.2.2.1, S.2.2.2.2.2.2.2.1, S.2.2.2.2.2.2.2.2.1, S.2.2.2.2.2.2.2.2.2.1, n, s_tru S)
def u_tru (S : q_St) (x : Int32) : q_St := (S.1, S.2.1, S.2.2.1, S.2.2.2.1, S.2.2.2.2.1, S.2.2.2.2.2.1, S.2.2.2.2.2.2.1, S.2.2.2.2.2.2.2.1, S.2.2.2.2.2.2.2.2.1, S.2.2.2.2.2.2.2.2.2.1, s_n S, x)
abbrev q_CV : Type := q_St × (Nat → q_St) × Nat × Nat × (Nat → Int32) × Nat × (Nat → Int32)
abbrev v_now (V : q_CV) : q_St := V.1
abbrev v_sx (V : q_CV) : Nat → q_St := V.2.1
abbrev v_nxt (V : q_CV) : Nat := V.2.2.1
abbrev v_hl (V : q_CV) : Nat := V.2.2.2.1
abbrev v_pc (V : q_CV) : Nat → Int32 := V.2.2.2.2.1
abbrev v_pl (V : q_CV) : Nat := V.2.2.2.2.2.1
abbrev v_sav (V : q_CV) : Nat → Int32 := V.2.2.2.2.2.2
def w_now (V : q_CV) (S : q_St) : q_CV := (S, V.2)
def w_sx (V : q_CV) (X : Nat → q_St) : q_CV := (V.1, X, V.2.2)
def w_nxt (V : q_CV) (n : Nat) : q_CV := (V.1, V.2.1, n, V.2.2.2)
def w_hl (V : q_CV) (n : Nat) : q_CV := (V.1, V.2.1, V.2.2.1, n, V.2.2.2.2)
def w_pc (V : q_CV) (f : Nat → Int32) : q_CV := (V.1, V.2.1, V.2.2.1, V.2.2.2.1, f, V.2.2.2.2.2)
def w_pl (V : q_CV) (n : Nat) : q_CV := (V.1, V.2.1, V.2.2.1, V.2.2.2.1, V.2.2.2.2.1, n, V.2.2.2.2.2.2)
def w_sav (V : q_CV) (f : Nat → Int32) : q_CV := (V.1, V.2.1, V.2.2.1, V.2.2.2.1, V.2.2.2.2.1, V.2.2.2.2.2.1, f)
def q_poolW (g : q_G) (a : Nat → Nat → Nat) (X : Nat → q_St) : Nat → Nat → va_W
  | _, 0 => []
  | i, n + 1 => q_stW g (a i) (X i) ++ q_poolW g a X (i + 1) n
def q_E (g : q_G) (a : Nat → Nat → Nat) (b : Nat → Nat) (V : q_CV) : va_W := [(b 0, .inr (3, [.ref (a 0 0), .ref (b 3), .ref (b 1), .ref (b 5), .ref (b 6)])), (b 1, .inr (1, [.ref (b 2), .int (nI (v_pl V))])), (b 2, .inl (g.2 0, 80, .inl (v_pc V))), (b 3, .inr (0, [.ref (b 4), .int (nI (v_nxt V)), .int (nI (v_hl V))])), (b 4, .inl (g.2 4, 6, .inr (.inr (.inr (.inr (fun i => some (a (i + 1) 0))))))), (b 5, .inl (g.2 4, 2, .inr (.inr (.inr (.inr (fun i => some (a (i + 7) 0))))))), (b 6, .inl (g.2 2, 2, .inl (v_sav V)))]
def q_pqW (g : q_G) (a : Nat → Nat → Nat) (b : Nat → Nat) (V : q_CV) : va_W := q_E g a b V ++ (q_stW g (a 0) (v_now V) ++ q_poolW g a (v_sx V) 1 8)
def q_blk (V : q_CV) (i : Nat) : q_St := if i = 0 then v_now V else v_sx V i
/-! its cells, by blocks -/
theorem q_P_mem {D : va_G} {cl : List vw_C} {ws : va_W} {H : Heap} : va_P D cl ws H ↔ ∀ q ∈ ws, va_at D cl q H :=
  ⟨fun h q hq => by
    obtain ⟨k, hk⟩ := List.getElem?_of_mem hq
    exact h k q hk, fun h k q hk => h q (List.mem_of_getElem? hk)⟩
theorem q_P_app {D : va_G} {cl : List vw_C} {w1 w2 : va_W} {H : Heap} : va_P D cl (w1 ++ w2) H ↔ va_P D cl w1 H ∧ va_P D cl w2 H := by
  simp only [q_P_mem, List.mem_append]
  exact ⟨fun h => ⟨fun q hq => h q (Or.inl hq), fun q hq => h q (Or.inr hq)⟩, fun h q hq => hq.elim (h.1 q) (h.2 q)⟩
theorem q_poolP {D : va_G} {cl : List vw_C} {g : q_G} {a : Nat → Nat → Nat} {X : Nat → q_St} {H : Heap} : ∀ (n i : Nat), va_P D cl (q_poolW g a X i n) H ↔ ∀ j, i ≤ j → j < i + n → va_P D cl (q_stW g (a j) (X j)) H
  | 0, i => ⟨fun _ j h1 h2 => absurd h2 (by omega), fun _ k q hk => by simp [q_poolW] at hk⟩
  | n + 1, i => by
    show va_P D cl (q_stW g (a i) (X i) ++ q_poolW g a X (i + 1) n) H ↔ _
    rw [q_P_app, q_poolP n (i + 1)]
    refine ⟨fun h j h1 h2 => ?_, fun h => ⟨h i (Nat.le_refl i) (by omega), fun j h1 h2 => h j (by omega) (by omega)⟩⟩
    rcases Nat.lt_or_ge i j with c | c
    · exact h.2 j c (by omega)
    · have e : j = i := by omega
      subst e; exact h.1
theorem q_pqP {D : va_G} {cl : List vw_C} {g : q_G} {a : Nat → Nat → Nat} {b : Nat → Nat} {V : q_CV} {H : Heap} : va_P D cl (q_pqW g a b V) H ↔ va_P D cl (q_E g a b V) H ∧ ∀ j, j < 9 → va_P D cl (q_stW g (a j) (q_blk V j)) H := by
  unfold q_pqW
  rw [q_P_app, q_P_app, q_poolP 8 1]
  refine and_congr_right fun _ => ⟨fun h j hj => ?_, fun h => ⟨h 0 (by omega), fun j h1 h2 => ?_⟩⟩
  · unfold q_blk
    split
    · next e => subst e; exact h.1
    · exact h.2 j (by omega) (by omega)
  · have h3 := h j (by omega)
    unfold q_blk at h3
    rwa [if_neg (by omega)] at h3
theorem q_nowP {D : va_G} {cl : List vw_C} {g : q_G} {a : Nat → Nat → Nat} {b : Nat → Nat} {V : q_CV} {H : Heap} (h : va_P D cl (q_pqW g a b V) H) : va_P D cl (q_stW g (a 0) (v_now V)) H := (q_pqP.mp h).2 0 (by omega)
theorem q_padP {D : va_G} {cl : List vw_C} {g : q_G} {a : Nat → Nat → Nat} {b : Nat → Nat} {V : q_CV} {H : Heap} (h : va_P D cl (q_pqW g a b V) H) : va_P D cl (q_pdW g (b 1) (b 2) (v_pc V) (v_pl V)) H := h.sub [1, 2] rfl
theorem q_hisP {D : va_G} {cl : List vw_C} {g : q_G} {a : Nat → Nat → Nat} {b : Nat → Nat} {V : q_CV} {H : Heap} (h : va_P D cl (q_pqW g a b V) H) : va_P D cl [(b 3, .inr (0, [.ref (b 4), .int (nI (v_nxt V)), .int (nI (v_hl V))]))] H := h.sub [3] rfl
/-! its addresses -/
def q_inj (a : Nat → Nat → Nat) (b : Nat → Nat) : Prop := (∀ i k j l, i < 9 → k < 11 → j < 9 → l < 11 → a i k = a j l → i = j ∧ k = l) ∧ (∀ i k j, i < 9 → k < 11 → j < 7 → a i k ≠ b j) ∧ ∀ i j, i < 7 → j < 7 → b i = b j → i = j
def q_adr (a : Nat → Nat → Nat) (b : Nat → Nat) (q : Nat) : Prop := (∃ i k, i < 9 ∧ k < 11 ∧ q = a i k) ∨ ∃ j, j < 7 ∧ q = b j
theorem q_st_at {g : q_G} {q : Nat → Nat} {S : q_St} {k : Nat} {x : Nat × va_E} (h : (q_stW g q S)[k]? = some x) : k < 11 ∧ x.1 = q k := by
  match k, h with
  | 0, h => cases h; exact ⟨by omega, rfl⟩
  | 1, h => cases h; exact ⟨by omega, rfl⟩
  | 2, h => cases h; exact ⟨by omega, rfl⟩
  | 3, h => cases h; exact ⟨by omega, rfl⟩
  | 4, h => cases h; exact ⟨by omega, rfl⟩
  | 5, h => cases h; exact ⟨by omega, rfl⟩
  | 6, h => cases h; exact ⟨by omega, rfl⟩
  | 7, h => cases h; exact ⟨by omega, rfl⟩
  | 8, h => cases h; exact ⟨by omega, rfl⟩
  | 9, h => cases h; exact ⟨by omega, rfl⟩
  | 10, h => cases h; exact ⟨by omega, rfl⟩
  | k + 11, h => simp [q_stW] at h
theorem q_E_at {g : q_G} {a : Nat → Nat → Nat} {b : Nat → Nat} {V : q_CV} {k : Nat} {x : Nat × va_E} (h : (q_E g a b V)[k]? = some x) : k < 7 ∧ x.1 = b k := by
  match k, h with
  | 0, h => cases h; exact ⟨by omega, rfl⟩
  | 1, h => cases h; exact ⟨by omega, rfl⟩
  | 2, h => cases h; exact ⟨by omega, rfl⟩
  | 3, h => cases h; exact ⟨by omega, rfl⟩
  | 4, h => cases h; exact ⟨by omega, rfl⟩
  | 5, h => cases h; exact ⟨by omega, rfl⟩
  | 6, h => cases h; exact ⟨by omega, rfl⟩
  | k + 7, h => simp [q_E] at h
theorem q_stW_len (g : q_G) (q : Nat → Nat) (S : q_St) : (q_stW g q S).length = 11 := rfl
theorem q_E_len (g : q_G) (a : Nat → Nat → Nat) (b : Nat → Nat) (V : q_CV) : (q_E g a b V).length = 7 := rfl
theorem q_pool_at {g : q_G} {a : Nat → Nat → Nat} {X : Nat → q_St} : ∀ (n i k : Nat) (x : Nat × va_E), (q_poolW g a X i n)[k]? = some x → k < 11 * n ∧ x.1 = a (i + k / 11) (k % 11)
  | 0, i, k, x, h => by simp [q_poolW] at h
  | n + 1, i, k, x, h => by
    have h : (q_stW g (a i) (X i) ++ q_poolW g a X (i + 1) n)[k]? = some x := h
    rcases Nat.lt_or_ge k 11 with c | c
    · rw [List.getElem?_append_left (by rw [q_stW_len]; exact c)] at h
      have := (q_st_at h).2
      rw [this, Nat.div_eq_of_lt c, Nat.mod_eq_of_lt c]
      exact ⟨by omega, rfl⟩
    · rw [List.getElem?_append_right (by rw [q_stW_len]; exact c), q_stW_len] at h
      obtain ⟨h1, h2⟩ := q_pool_at n (i + 1) (k - 11) x h
      refine ⟨by omega, ?_⟩
      rw [h2]
      have e1 : i + 1 + (k - 11) / 11 = i + k / 11 := by omega
      have e2 : (k - 11) % 11 = k % 11 := by omega
      rw [e1, e2]
theorem q_pq_at {g : q_G} {a : Nat → Nat → Nat} {b : Nat → Nat} {V : q_CV} {k : Nat} {x : Nat × va_E} (h : (q_pqW g a b V)[k]? = some x) : (k < 7 ∧ x.1 = b k) ∨ (7 ≤ k ∧ k < 106 ∧ x.1 = a ((k - 7) / 11) ((k - 7) % 11)) := by
  unfold q_pqW at h
  rcases Nat.lt_or_ge k 7 with c | c
  · rw [List.getElem?_append_left (by rw [q_E_len]; exact c)] at h
    exact Or.inl (q_E_at h)
  · rw [List.getElem?_append_right (by rw [q_E_len]; exact c), q_E_len] at h
    rcases Nat.lt_or_ge (k - 7) 11 with d | d
    · rw [List.getElem?_append_left (by rw [q_stW_len]; exact d)] at h
      have := (q_st_at h).2
      refine Or.inr ⟨c, by omega, ?_⟩
      rw [this, Nat.div_eq_of_lt d, Nat.mod_eq_of_lt d]
    · rw [List.getElem?_append_right (by rw [q_stW_len]; exact d), q_stW_len] at h
      obtain ⟨h1, h2⟩ := q_pool_at 8 1 _ x h
      refine Or.inr ⟨c, by omega, ?_⟩
      rw [h2]
      have e1 : 1 + (k - 7 - 11) / 11 = (k - 7) / 11 := by omega
      have e2 : (k - 7 - 11) % 11 = (k - 7) % 11 := by omega
      rw [e1, e2]
theorem q_D {g : q_G} {a : Nat → Nat → Nat} {b : Nat → Nat} {V : q_CV} {A : Nat → Prop} (hI : q_inj a b) (hA : ∀ q, q_adr a b q → A q) : va_D A (q_pqW g a b V) := by
  refine ⟨fun i j p q hi hj hpq => ?_, fun k q hk => ?_⟩
  · rcases q_pq_at hi with ⟨h1, h2⟩ | ⟨h1, h1', h2⟩ <;> rcases q_pq_at hj with ⟨h3, h4⟩ | ⟨h3, h3', h4⟩
    · exact hI.2.2 i j h1 h3 (by rw [← h2, ← h4, hpq])
    · exact absurd (by rw [← h2, ← h4, hpq]) (hI.2.1 ((j - 7) / 11) ((j - 7) % 11) i (by omega) (by omega) h1)
    · exact absurd (by rw [← h2, ← h4, hpq]) (hI.2.1 ((i - 7) / 11) ((i - 7) % 11) j (by omega) (by omega) h3)
    · have := hI.1 ((i - 7) / 11) ((i - 7) % 11) ((j - 7) / 11) ((j - 7) % 11) (by omega) (by omega) (by omega) (by omega) (by rw [← h2, ← h4, hpq])
      omega
  · rcases q_pq_at hk with ⟨h1, h2⟩ | ⟨h1, h1', h2⟩
    · exact hA _ (Or.inr ⟨k, h1, h2⟩)
    · exact hA _ (Or.inl ⟨(k - 7) / 11, (k - 7) % 11, by omega, by omega, h2⟩)
/-! one block copied over another one -/
def q_two (a : Nat → Nat → Nat) (i j : Nat) (q : Nat) : Prop := ∃ k, k < 11 ∧ (q = a i k ∨ q = a j k)
theorem q_two_D {g : q_G} {a : Nat → Nat → Nat} {b : Nat → Nat} {S1 S2 : q_St} (hI : q_inj a b) {i j : Nat} (hi : i < 9) (hj : j < 9) (hij : i ≠ j) : va_D (q_two a i j) (q_stW g (a i) S1 ++ q_stW g (a j) S2) := by
  have key : ∀ (k : Nat) (x : Nat × va_E), (q_stW g (a i) S1 ++ q_stW g (a j) S2)[k]? = some x → (k < 11 ∧ x.1 = a i k) ∨ (11 ≤ k ∧ k < 22 ∧ x.1 = a j (k - 11)) := by
    intro k x h
    rcases Nat.lt_or_ge k 11 with c | c
    · rw [List.getElem?_append_left (by rw [q_stW_len]; exact c)] at h
      exact Or.inl (q_st_at h)
    · rw [List.getElem?_append_right (by rw [q_stW_len]; exact c), q_stW_len] at h
      have := q_st_at h
      exact Or.inr ⟨c, by omega, this.2⟩
  refine ⟨fun k l p q hk hl hpq => ?_, fun k q hk => ?_⟩
  · rcases key k p hk with ⟨h1, h2⟩ | ⟨h1, h1', h2⟩ <;> rcases key l q hl with ⟨h3, h4⟩ | ⟨h3, h3', h4⟩
    · exact (hI.1 i k i l hi h1 hi h3 (by rw [← h2, ← h4, hpq])).2
    · exact absurd (hI.1 i k j (l - 11) hi h1 hj (by omega) (by rw [← h2, ← h4, hpq])).1 hij
    · exact absurd (hI.1 i l j (k - 11) hi h3 hj (by omega) (by rw [← h2, ← h4, hpq])).1 hij
    · have := (hI.1 j (k - 11) j (l - 11) hj (by omega) hj (by omega) (by rw [← h2, ← h4, hpq])).2
      omega
  · rcases key k q hk with ⟨h1, h2⟩ | ⟨h1, h1', h2⟩
    · exact ⟨k, h1, Or.inl h2⟩
    · exact ⟨k - 11, by omega, Or.inr h2⟩
def v_copy (V : q_CV) (i j : Nat) : q_CV := if j = 0 then w_now V (q_blk V i) else w_sx V (va_up (v_sx V) j (q_blk V i))
theorem q_copyJ {D : va_G} {cl : List vw_C} {g : q_G} {a : Nat → Nat → Nat} {b : Nat → Nat} {V : q_CV} {H H1 : Heap} (hI : q_inj a b) (hP : va_P D cl (q_pqW g a b V) H) {i j : Nat} (hi : i < 9) (hj : j < 9) (h1 : va_P D cl (q_stW g (a i) (q_blk V i) ++ q_stW g (a j) (q_blk V i)) H1) (hF : ∀ q : Nat, q < H.size → ¬ q_two a i j q → H1[q]? = H[q]?) : va_P D cl (q_pqW g a b (v_copy V i j)) H1 := by
  rw [q_P_app] at h1
  have hP' := q_pqP.mp hP
  refine q_pqP.mpr ⟨?_, fun l hl => ?_⟩
  · have e : q_E g a b (v_copy V i j) = q_E g a b V := by unfold v_copy; split <;> rfl
    rw [e]
    refine hP'.1.kept fun k q hk => hF q.1 (va_at.lt (hP'.1 k q hk)) ?_
    rintro ⟨m, hm, h | h⟩
    · exact hI.2.1 i m k hi hm (q_E_at hk).1 (by rw [← h, (q_E_at hk).2])
    · exact hI.2.1 j m k hj hm (q_E_at hk).1 (by rw [← h, (q_E_at hk).2])
  · have e : q_blk (v_copy V i j) l = if l = j then q_blk V i else q_blk V l := by
      unfold v_copy
      by_cases hj0 : j = 0
      · subst hj0
        rw [if_pos rfl]
        by_cases hl0 : l = 0
        · subst hl0; rfl
        · simp [q_blk, hl0, w_now]
      · rw [if_neg hj0]
        by_cases hl0 : l = 0
        · subst hl0
          rw [if_neg (fun h => hj0 h.symm)]
          rfl
        · by_cases hlj : l = j
          · subst hlj
            show (if l = 0 then v_now V else va_up (v_sx V) l (q_blk V i) l) = _
            rw [if_neg hl0, if_pos rfl]; exact if_pos rfl
          · show (if l = 0 then v_now V else va_up (v_sx V) j (q_blk V i) l) = _
            rw [if_neg hl0, if_neg hlj]
            show va_up (v_sx V) j (q_blk V i) l = if l = 0 then v_now V else v_sx V l
            rw [if_neg hl0]; exact if_neg hlj
    rw [e]
    by_cases hlj : l = j
    · rw [if_pos hlj, hlj]; exact h1.2
    · rw [if_neg hlj]
      by_cases hli : l = i
      · rw [hli]; exact h1.1
      · refine (hP'.2 l hl).kept fun k q hk => hF q.1 (va_at.lt (hP'.2 l hl k q hk)) ?_
        obtain ⟨hk1, hk2⟩ := q_st_at hk
        rintro ⟨m, hm, h | h⟩
        · exact hli (hI.1 l k i m hl hk1 hi hm (by rw [← hk2, h])).1
        · exact hlj (hI.1 l k j m hl hk1 hj hm (by rw [← hk2, h])).1
theorem q_two_adr {a : Nat → Nat → Nat} {b : Nat → Nat} {i j q : Nat} (hi : i < 9) (hj : j < 9) (h : q_two a i j q) : q_adr a b q := by
  obtain ⟨k, hk, h | h⟩ := h
  · exact Or.inl ⟨i, k, hi, hk, h⟩
  · exact Or.inl ⟨j, k, hj, hk, h⟩
/-! methods that write -/
def q_QM (g : q_G) (A : Nat → Prop) (W1 : va_W) (r : Option Value) : Array Value → State → Outcome → State → Prop := fun _ st o t => o = .returned r ∧ va_P g.1 vwCl W1 t.heap ∧ va_F A st t
theorem q_mm {l : Launch} {y : MethodName} {ws ws' : List Cond} {rm : Room} {cc : ByteArray} {maxL mc ms : Nat} {ret : Option FieldType} {vs : List Value} {B : State → Prop} {Qc : Array Value → State → Outcome → State → Prop} {free : Addr → Prop} (hy : plainName y.cls = true) (hw : ws = Cond.code y cc maxL ret :: ws') (hn : (lg_sl vs).length ≤ maxL)
    (body : ∀ (p : Program) (e : Env) (s : State) (m : MethodId) (args : Array Value) (below : List Frame) (meth : Method) (c : Code) (ls : Array Slot), p.tables.exec = Jvm.exec → c.code = cc → c.maxLocals = maxL → s.vm.findClass y.cls = some m.cls → (∀ w ∈ ws, w.before args s = true) → meth.sig.returnType = ret → meth.locks = false → meth.name = y.name → B s → args = vs.toArray → lv_has ls maxL (lv_args 0 vs) → W p l e rm s m args below meth c s.heap [] 0 0 (MQ below Qc args s mc ms free) (F0 m 0 ls [])) : Met l y ws rm (va_Pc vs B) Qc mc ms free := by
  refine Met.ofW (cc := cc) (maxL := maxL) (ret := ret) hy hw ?_
  intro p e s m args below meth c s₁ X hml hv
  obtain ⟨rfl, hB⟩ := hv
  rw [lg_entry_eq]
  exact body p e s m _ below meth c _ X.exec X.bytes hml (findClass_of_methodNamed X.named) (atoms_spec (ws := ws) X.pre) X.returns X.notSynchronized (name_of_methodNamed X.named X.method).1 hB rfl (lv_entry vs hn)
section QM
variable {p : Program} {l : Launch} {e : Env} {R : Room} {s : State} {m : MethodId} {args : Array Value} {below : List Frame} {meth : Method} {c : Code} {H H0 : Heap} {locs : List Loc} {cells slots mc ms : Nat} {Q : State → Prop}
variable {cc bytes : ByteArray} {nL maxL index n c2 s2 : Nat} {Ts ws ws' : List Cond} {own C : String} {y : MethodName} {ret : Option FieldType} {rm : Room} {b : Addr} {As rest st st2 : List Value} {ls : Array Slot} {pc : Nat} {r : Option Value} {B : State → Prop} {g : q_G} {A A0 : Nat → Prop} {W1 W2 : va_W} {a : Array Value}
theorem q_callM (hr : CallRun p l e R s m args below meth c H locs cells slots mc ms (F0 m pc ls st) rest (q_QM g A W1 r a) A) (hS : va_S A0 H0 H locs) (hA : ∀ q, A q → A0 q) (hst2 : r.toList ++ rest = st2) (hc2 : cells + mc = c2) (hs2 : slots + ms = s2)
    (kk : ∀ (H1 : Heap) (locs1 : List Loc), va_P g.1 vwCl W1 H1 → (∀ q : Nat, q < H.size → ¬ A q → H1[q]? = H[q]?) → va_S A0 H0 H1 locs1 → H.size ≤ H1.size → W p l e R s m args below meth c H1 locs1 c2 s2 Q (F0 m (pc + 3) ls st2)) : W p l e R s m args below meth c H locs cells slots Q (F0 m pc ls st) := by
  subst hst2; subst hc2; subst hs2
  intro T hT X
  obtain ⟨v, st₀, t, T', L, h0, X', hL, e1, ⟨hv, hp, hz, hk⟩, sg⟩ := hr T hT X
  cases hv
  rw [h0] at hz hk
  obtain ⟨t2, a1, b1⟩ := kk T'.heap (locs ++ L) (by rw [e1]; exact hp) (fun q h1 h2 => by rw [e1]; exact hk q h1 h2)
    ⟨Nat.le_trans hS.1 (by rw [e1]; exact hz), fun q h1 h2 => by rw [e1, hk q (Nat.lt_of_lt_of_le h1 hS.1) (fun z => h2 (hA q z))]; exact hS.2.1 q h1 h2, fun q hq => by
      rcases List.mem_append.mp hq with h | h
      · exact hS.2.2 q h
      · exact hA _ (hL q h)⟩ (by rw [e1]; exact hz) T' rfl X'
  exact ⟨t2, sg t2 a1, b1⟩
theorem q_VM (S : CallFix p m c cc nL s args Ts own) (hM : Met l y ws rm (va_Pc (.ref b :: As) B) (q_QM g A W1 r) mc ms A) (cw : CallW R s args own C index y bytes maxL ret ws rm mc ms n) (hbl : q_Blind B) (hrec : ∃ cell : Cell, H[b]? = some cell ∧ cell.vm.isStatics = false ∧ s.vm.findClass C = some cell.cls) (hB : ∀ U : State, U.heap = H → s.WarmedH U.vm → B U)
    (hn : As.length = n) (hsize : ls.size = nL) (hst : st = As.reverse ++ .ref b :: rest) (hW : (rest.map fun v => v.category).sum ≤ 8) (hdg : decode cc pc = .ok (.invokevirtual index, 3)) (hc : cells + mc ≤ R.cells) (hs : slots + ms ≤ R.slots) (hS : va_S A0 H0 H locs) (hA : ∀ q, A q → A0 q) (hst2 : r.toList ++ rest = st2) (hc2 : cells + mc = c2) (hs2 : slots + ms = s2)
    (kk : ∀ (H1 : Heap) (locs1 : List Loc), va_P g.1 vwCl W1 H1 → (∀ q : Nat, q < H.size → ¬ A q → H1[q]? = H[q]?) → va_S A0 H0 H1 locs1 → H.size ≤ H1.size → W p l e R s m args below meth c H1 locs1 c2 s2 Q (F0 m (pc + 3) ls st2)) : W p l e R s m args below meth c H locs cells slots Q (F0 m pc ls st) := by
  subst hst
  exact q_callM (W.runV S hM cw ⟨fun a U gg mk h => ⟨h.1, hbl a U gg mk h.2⟩, hrec, fun U h1 h2 => ⟨rfl, hB U h1 h2⟩⟩ rfl hn hsize rfl (lv_room (pc := pc) (ls := ls) (rest := As.reverse ++ .ref b :: rest) hW) hdg ⟨hc, hs⟩) hS hA hst2 hc2 hs2 kk
theorem q_SM (S : CallFix p m c cc nL s args Ts own) (hM : Met l y ws rm (va_Pc As B) (q_QM g A W1 r) mc ms A) (cw : CallB R s args own index y bytes maxL ret ws rm mc ms n ∧ (Cond.static y).before args s = true) (hbl : q_Blind B) (hB : ∀ U : State, U.heap = H → s.WarmedH U.vm → B U)
    (hn : As.length = n) (hsize : ls.size = nL) (hst : st = As.reverse ++ rest) (hW : (rest.map fun v => v.category).sum ≤ 8) (hdg : decode cc pc = .ok (.invokestatic index, 3)) (hc : cells + mc ≤ R.cells) (hs : slots + ms ≤ R.slots) (hS : va_S A0 H0 H locs) (hA : ∀ q, A q → A0 q) (hst2 : r.toList ++ rest = st2) (hc2 : cells + mc = c2) (hs2 : slots + ms = s2)
    (kk : ∀ (H1 : Heap) (locs1 : List Loc), va_P g.1 vwCl W1 H1 → (∀ q : Nat, q < H.size → ¬ A q → H1[q]? = H[q]?) → va_S A0 H0 H1 locs1 → H.size ≤ H1.size → W p l e R s m args below meth c H1 locs1 c2 s2 Q (F0 m (pc + 3) ls st2)) : W p l e R s m args below meth c H locs cells slots Q (F0 m pc ls st) := by
  subst hst
  exact q_callM (W.runS S hM cw ⟨fun a U gg mk h => ⟨h.1, hbl a U gg mk h.2⟩, fun U h1 h2 => ⟨rfl, hB U h1 h2⟩⟩ rfl hn hsize rfl (lv_room (pc := pc) (ls := ls) (rest := As.reverse ++ rest) hW) hdg ⟨hc, hs⟩) hS hA hst2 hc2 hs2 kk
theorem q_miret {v r : Int32} (hx : p.tables.exec = Jvm.exec) (hb : c.code = cc) (hr : meth.sig.returnType = some .int) (hlk : meth.locks = false) (hdg : decode cc pc = .ok (.ireturn, 1)) (hP : va_P g.1 vwCl W1 H) (hS : va_S A s.heap H locs) (hv : v = r) (hW : W1 = W2) : W p l e R s m args below meth c H locs cells slots (MQ below (q_QM g A W2 (some (.int r))) args s cells slots A) (F0 m pc ls [.int v]) := by
  subst hv; subst hW
  exact W.iret hx hb hr (fun _ ht _ => ⟨rfl, by rw [ht]; exact hP, hS.F ht⟩) hS.2.2 hdg hlk
theorem q_mzret {v : Int32} {b : Bool} (hx : p.tables.exec = Jvm.exec) (hb : c.code = cc) (hr : meth.sig.returnType = some .boolean) (hlk : meth.locks = false) (hdg : decode cc pc = .ok (.ireturn, 1)) (hP : va_P g.1 vwCl W1 H) (hS : va_S A s.heap H locs) (hv : v = bI b) (hW : W1 = W2) : W p l e R s m args below meth c H locs cells slots (MQ below (q_QM g A W2 (some (.int (bI b)))) args s cells slots A) (F0 m pc ls [.int v]) := by
  subst hv; subst hW
  exact W.zret hx hb hr (bI_nar b) (fun _ ht _ => ⟨rfl, by rw [ht]; exact hP, hS.F ht⟩) hS.2.2 hdg hlk
theorem q_mvret (hx : p.tables.exec = Jvm.exec) (hb : c.code = cc) (hr : meth.sig.returnType = none) (hlk : meth.locks = false) (hdg : decode cc pc = .ok (.return_, 1)) (hP : va_P g.1 vwCl W1 H) (hS : va_S A s.heap H locs) (hW : W1 = W2) : W p l e R s m args below meth c H locs cells slots (MQ below (q_QM g A W2 none) args s cells slots A) (F0 m pc ls []) := by
  subst hW
  exact W.vret hx hb hr (fun _ ht _ => ⟨rfl, by rw [ht]; exact hP, hS.F ht⟩) hS.2.2 hdg hlk
end QM
theorem q_cell_i {cA : ClassId} {n : Nat} {f f' : Nat → Int32} (h : ∀ j, j < n → f j = f' j) : vp_cell cA (n, .inl f) = vp_cell cA (n, .inl f') := by
  rw [vp_cell_i, vp_cell_i]
  unfold arrV
  congr 1
  exact congrArg Array.ofFn (funext fun j => congrArg Value.int (h j.val j.isLt))
theorem q_cell_l {cA : ClassId} {n : Nat} {f f' : Nat → Int64} (h : ∀ j, j < n → f j = f' j) : vp_cell cA (n, .inr (.inl f)) = vp_cell cA (n, .inr (.inl f')) := by
  rw [vp_cell_l, vp_cell_l]
  unfold arrV
  congr 1
  exact congrArg Array.ofFn (funext fun j => congrArg Value.long (h j.val j.isLt))
/-- two states whose cells hold the same -/
def q_stE (S T : q_St) : Prop := (∀ j, j < 4 → s_set S j = s_set T j) ∧ (∀ j, j < 10 → s_paid S j = s_paid T j) ∧ (∀ j, j < 10 → s_jok S j = s_jok T j) ∧ (∀ j, j < 10 → s_fin S j = s_fin T j) ∧ (∀ j, j < 10 → s_gue S j = s_gue T j) ∧ (∀ j, j < 8 → s_key S j = s_key T j) ∧ (∀ j, j < 80 → s_she S j = s_she T j) ∧ (∀ j, j < 80 → s_mar S j = s_mar T j) ∧ (∀ j, j < 80 → s_mkr S j = s_mkr T j) ∧ (∀ j, j < 8 → s_loo S j = s_loo T j) ∧ s_n S = s_n T ∧ s_tru S = s_tru T
theorem q_st_eqv {D : va_G} {cl : List vw_C} {g : q_G} {q : Nat → Nat} {S T : q_St} {H : Heap} (h : q_stE S T) (hP : va_P D cl (q_stW g q S) H) : va_P D cl (q_stW g q T) H := by
  obtain ⟨h1, h2, h3, h4, h5, h6, h7, h8, h9, h10, h11, h12⟩ := h
  intro k x hk
  match k, hk with
  | 0, hk =>
    cases hk
    have hx := hP 0 _ rfl
    have e : q_stF q T = q_stF q S := by unfold q_stF; rw [h11, h12]
    rw [e]; exact hx
  | 1, hk => cases hk; exact (hP 1 _ rfl).trans (congrArg some (q_cell_i h1))
  | 2, hk => cases hk; exact (hP 2 _ rfl).trans (congrArg some (q_cell_i h2))
  | 3, hk => cases hk; exact (hP 3 _ rfl).trans (congrArg some (q_cell_i h3))
  | 4, hk => cases hk; exact (hP 4 _ rfl).trans (congrArg some (q_cell_i h4))
  | 5, hk => cases hk; exact (hP 5 _ rfl).trans (congrArg some (q_cell_i h5))
  | 6, hk => cases hk; exact (hP 6 _ rfl).trans (congrArg some (q_cell_l h6))
  | 7, hk => cases hk; exact (hP 7 _ rfl).trans (congrArg some (q_cell_l h7))
  | 8, hk => cases hk; exact (hP 8 _ rfl).trans (congrArg some (q_cell_i h8))
  | 9, hk => cases hk; exact (hP 9 _ rfl).trans (congrArg some (q_cell_i h9))
  | 10, hk => cases hk; exact (hP 10 _ rfl).trans (congrArg some (q_cell_i h10))
  | k + 11, hk => simp [q_stW] at hk
