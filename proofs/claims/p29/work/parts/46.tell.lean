/-! ten characters put one by one -/
def telN (c : Nat) (key : Bool) (k : Nat) : Nat := if key = false ∧ c / 2 ^ (2 * k) % 4 = 3 ∧ k % 2 = 1 then 45 else 48 + c / 2 ^ (2 * k) % 4 % 3
def telC (c : Nat) (key : Bool) (k : Nat) : Int64 := lN (telN c key k)
def telV (V : q_CV) (c : Nat) (key : Bool) : Nat → q_CV
  | 0 => w_pl V 0
  | k + 1 => putV (telV V c key k) (telC c key k)
theorem telN_in (c : Nat) (key : Bool) (k : Nat) : telN c key k = 45 ∨ telN c key k = 48 ∨ telN c key k = 49 ∨ telN c key k = 50 := by
  unfold telN
  split
  · exact Or.inl rfl
  · have := Nat.mod_lt (c / 2 ^ (2 * k) % 4) (show 0 < 3 by decide)
    omega
theorem tel_n : chN (lN 45) 0 8 = 1 ∧ chN (lN 48) 0 8 = 1 ∧ chN (lN 49) 0 8 = 1 ∧ chN (lN 50) 0 8 = 1 := by decide +kernel
theorem tel_b : (lN 45 &&& 255).toInt32 = nI 45 ∧ (lN 48 &&& 255).toInt32 = nI 48 ∧ (lN 49 &&& 255).toInt32 = nI 49 ∧ (lN 50 &&& 255).toInt32 = nI 50 := by decide +kernel
theorem tel_s : isSg (nI 45) = true ∧ isSg (nI 48) = true ∧ isSg (nI 49) = true ∧ isSg (nI 50) = true := by decide +kernel
theorem tel_d : isDg (nI 48) = true ∧ isDg (nI 49) = true ∧ isDg (nI 50) = true := by decide +kernel
theorem telC_n (c : Nat) (key : Bool) (k : Nat) : chN (telC c key k) 0 8 = 1 := by
  unfold telC
  rcases telN_in c key k with e | e | e | e <;> rw [e]
  · exact tel_n.1
  · exact tel_n.2.1
  · exact tel_n.2.2.1
  · exact tel_n.2.2.2
theorem telC_b (c : Nat) (key : Bool) (k : Nat) : (telC c key k &&& 255).toInt32 = nI (telN c key k) := by
  unfold telC
  rcases telN_in c key k with e | e | e | e <;> rw [e]
  · exact tel_b.1
  · exact tel_b.2.1
  · exact tel_b.2.2.1
  · exact tel_b.2.2.2
theorem telC_s (c : Nat) (key : Bool) (k : Nat) : isSg (nI (telN c key k)) = true := by
  rcases telN_in c key k with e | e | e | e <;> rw [e]
  · exact tel_s.1
  · exact tel_s.2.1
  · exact tel_s.2.2.1
  · exact tel_s.2.2.2
theorem telC_d (c k : Nat) : isDg (nI (telN c true k)) = true := by
  have h : ¬ (true = false ∧ c / 2 ^ (2 * k) % 4 = 3 ∧ k % 2 = 1) := fun q => by cases q.1
  have e : telN c true k = 48 + c / 2 ^ (2 * k) % 4 % 3 := if_neg h
  have := Nat.mod_lt (c / 2 ^ (2 * k) % 4) (show 0 < 3 by decide)
  rcases (show telN c true k = 48 ∨ telN c true k = 49 ∨ telN c true k = 50 by omega) with e | e | e <;> rw [e]
  · exact tel_d.1
  · exact tel_d.2.1
  · exact tel_d.2.2
theorem tel_E {V : q_CV} {c : Nat} {key : Bool} {k : Nat} (h : v_pl V ≤ 79) : putE V (telC c key k) = 0 := by
  unfold putE
  rw [telC_n, if_neg (by decide), if_neg (by omega)]
theorem tel_V {V : q_CV} {c : Nat} {key : Bool} {k : Nat} (h : v_pl V ≤ 79) : putV V (telC c key k) = v_appk V (telC c key k) 1 := by
  unfold putV
  rw [tel_E h, if_pos rfl, telC_n]
theorem tel_R {V : q_CV} {c : Nat} {key : Bool} {k : Nat} (h : v_pl V ≤ 79) : putR V (telC c key k) = nI (v_pl V + 1) := by
  unfold putR
  rw [tel_E h, if_pos rfl, telC_n]
theorem telP (V : q_CV) (c : Nat) (key : Bool) : ∀ k : Nat, k ≤ 10 → v_pl (telV V c key k) = k ∧ (∀ p, p < k → v_pc (telV V c key k) p = nI (telN c key p)) ∧ v_now (telV V c key k) = v_now V ∧ v_hl (telV V c key k) = v_hl V ∧ v_nxt (telV V c key k) = v_nxt V
  | 0, _ => ⟨rfl, fun p h => absurd h (Nat.not_lt_zero p), rfl, rfl, rfl⟩
  | k + 1, h => by
    obtain ⟨h1, h2, h3, h4, h5⟩ := telP V c key k (by omega)
    have e : telV V c key (k + 1) = v_appk (telV V c key k) (telC c key k) 1 := tel_V (by omega)
    rw [e]
    refine ⟨?_, ?_, h3, h4, h5⟩
    · show v_pl (telV V c key k) + 1 = k + 1
      rw [h1]
    · intro p hp
      show apf (v_pc (telV V c key k)) (telC c key k) (v_pl (telV V c key k) + 1) 1 p = nI (telN c key p)
      rw [h1]
      unfold apf
      rcases Nat.lt_or_ge p k with d | d
      · rw [if_neg (by omega)]; exact h2 p d
      · have e2 : p = k := by omega
        subst e2
        rw [if_pos (by omega), show p + 1 - 1 - p = 0 from by omega]
        exact telC_b c key p
theorem tel_pl (V : q_CV) (c : Nat) (key : Bool) {k : Nat} (h : k ≤ 10) : v_pl (telV V c key k) = k := (telP V c key k h).1
theorem tel_fau (V : q_CV) (c : Nat) (key : Bool) : fauI (v_pc (telV V c key 10)) (v_pl (telV V c key 10)) = -6 := by
  obtain ⟨h1, h2, -⟩ := telP V c key 10 (Nat.le_refl 10)
  exact fau_iff.mpr ⟨h1, fun k hk => by rw [h2 k hk]; exact telC_s c key k⟩
theorem tel_tsh (V : q_CV) (c : Nat) (key : Bool) : tshP (v_pc (telV V c key 10)) (v_pl (telV V c key 10)) = true := decide_eq_true (tel_fau V c key)
theorem tel_tky (V : q_CV) (c : Nat) : tkyP (v_pc (telV V c true 10)) (v_pl (telV V c true 10)) = true := by
  obtain ⟨h1, h2, -⟩ := telP V c true 10 (Nat.le_refl 10)
  unfold tkyP
  rw [tel_tsh, q_any_f fun k hk => by rw [h2 k hk, telC_d]; rfl]; rfl
theorem tel_iv {V : q_CV} {K : Nat} (h : q_iv K V) (c : Nat) (key : Bool) : q_iv K (telV V c key 10) := by
  obtain ⟨h1, h2, h3, h4, h5⟩ := telP V c key 10 (Nat.le_refl 10)
  unfold q_iv
  rw [h1, h3, h4, h5]
  exact ⟨h.1, h.2.1, by omega, h.2.2.2⟩
theorem tel_sh : ∀ k : Fin 10, ((((2 : Int32) * nI k.val) &&& 31).toBitVec.smod 32).toNat = 2 * k.val := by decide +kernel
theorem tel_shr {c k : Nat} (hc : c < 2 ^ 31) (hk : k < 10) : nI c >>> (((2 : Int32) * nI k) &&& 31) = nI (c / 2 ^ (2 * k)) := pk_shrN hc _ (2 * k) (tel_sh ⟨k, hk⟩)
theorem tel_c45 {c k : Nat} {key : Bool} (h1 : key = false) (h2 : nI (c / 2 ^ (2 * k) % 4) = 3) (h3 : nI (k % 2) = 1) : (45 : Int64) = telC c key k := by
  have e2 := (nI_eq (b := 3) (by omega) (by decide)).mp h2
  have e3 := (nI_eq (b := 1) (by omega) (by decide)).mp h3
  unfold telC telN
  rw [if_pos ⟨h1, e2, e3⟩]; rfl
theorem tel_x {c k : Nat} {key : Bool} (h : ¬ (key = false ∧ c / 2 ^ (2 * k) % 4 = 3 ∧ k % 2 = 1)) : ((48 : Int32) + nI (c / 2 ^ (2 * k) % 4 % 3)).toInt64 = telC c key k := by
  unfold telC telN
  rw [if_neg h, show (48 : Int32) = nI 48 from rfl, nI_add]
  exact nI_l (by omega)
theorem tel_xA {c k : Nat} {key : Bool} (h : key = true) : ((48 : Int32) + nI (c / 2 ^ (2 * k) % 4 % 3)).toInt64 = telC c key k := tel_x fun q => by rw [h] at q; cases q.1
theorem tel_xB {c k : Nat} {key : Bool} (h : ¬ nI (c / 2 ^ (2 * k) % 4) = 3) : ((48 : Int32) + nI (c / 2 ^ (2 * k) % 4 % 3)).toInt64 = telC c key k := tel_x fun q => h (by rw [q.2.1]; rfl)
theorem tel_xC {c k : Nat} {key : Bool} (h : ¬ nI (k % 2) = 1) : ((48 : Int32) + nI (c / 2 ^ (2 * k) % 4 % 3)).toInt64 = telC c key k := tel_x fun q => h (by rw [q.2.2]; rfl)
