/-! the calls of the class: which error, what it answers, what is behind it -/
def tN (x : Int32) : Nat := x.toNatClampNeg
theorem tN_n {t : Nat} (h : t < 2 ^ 31) : tN (nI t) = t := nI_clamp h
def isRd (x : Int32) : Bool := !decide (x < 0) && !decide ((8 : Int32) ≤ x)
def isSl (x : Int32) : Bool := !decide (x < 0) && !decide ((2 : Int32) ≤ x)
theorem isRd_of {x : Int32} (h : isRd x = true) : ∃ r : Nat, r < 8 ∧ x = nI r := by
  simp only [isRd, Bool.and_eq_true, Bool.not_eq_true', decide_eq_false_iff_not] at h
  obtain ⟨r, hr, rfl⟩ := nI_of h.1
  refine ⟨r, ?_, rfl⟩
  rcases Nat.lt_or_ge r 8 with q | q
  · exact q
  · exact absurd (nI_le q hr) h.2
theorem isSl_of {x : Int32} (h : isSl x = true) : ∃ r : Nat, r < 2 ∧ x = nI r := by
  simp only [isSl, Bool.and_eq_true, Bool.not_eq_true', decide_eq_false_iff_not] at h
  obtain ⟨r, hr, rfl⟩ := nI_of h.1
  refine ⟨r, ?_, rfl⟩
  rcases Nat.lt_or_ge r 2 with q | q
  · exact q
  · exact absurd (nI_le q hr) h.2
theorem isRd_t {r : Nat} (h : r < 8) : isRd (nI r) = true := by
  have h1 := nI_pos (n := r) (by omega)
  have h2 : ¬ (8 : Int32) ≤ nI r := fun q => by have := (nI_leI (a := 8) (by decide) (by omega)).mp q; omega
  simp only [isRd, h1, h2, decide_false]; rfl
def teaE (V : q_CV) : Int32 := if ¬ s_n (v_now V) < 10 then -4 else if ¬ q_or (isOp (v_now V)) 8 = 255 then -5 else 0
def teaR (V : q_CV) : Int32 := if teaE V = 0 then nI (s_n (v_now V)) else teaE V
def teaS (S : q_St) : q_St := u_n (u_paid S (upd (s_paid S) (s_n S) (s_set S 0))) (s_n S + 1)
def teaV (V : q_CV) : q_CV := if teaE V = 0 then w_now (v_rec V) (teaS (v_now V)) else V
def hanE (V : q_CV) (x y : Int32) : Int32 := if isTm (v_now V) x = false then -1 else if isRd y = false then -1 else if tshP (v_pc V) (v_pl V) = false then -3 else if isOp (v_now V) (tN y) = false then -5 else if hasS (v_now V) (tN x) (tN y) = true then -5 else 0
def hanS (S : q_St) (t r : Nat) (w : Int64) : q_St := u_she S (vp_updL (s_she S) (t * 8 + r) w)
def hanR (V : q_CV) (x y : Int32) : Int32 := if hanE V x y = 0 then nI (ansN (hanS (v_now V) (tN x) (tN y) (sigs (v_pc V) 10)) (tN x) (tN y)) else hanE V x y
def hanV (V : q_CV) (x y : Int32) : q_CV := if hanE V x y = 0 then w_pl (w_now (v_rec V) (hanS (v_now V) (tN x) (tN y) (sigs (v_pc V) 10))) 0 else V
def jokE (V : q_CV) (x y : Int32) : Int32 := if isTm (v_now V) x = false then -1 else if isRd y = false then -1 else if ¬ s_jok (v_now V) (tN x) = -6 then -5 else if isOp (v_now V) (tN y) = false then -5 else if hasS (v_now V) (tN x) (tN y) = true then -5 else 0
def jokS (S : q_St) (t r : Nat) : q_St := u_jok S (upd (s_jok S) t (nI r))
def jokR (V : q_CV) (x y : Int32) : Int32 := if jokE V x y = 0 then nI (q_cnt (fun t => decide (s_jok (jokS (v_now V) (tN x) (tN y)) t = nI (tN y))) (s_n (v_now V))) else jokE V x y
def jokV (V : q_CV) (x y : Int32) : q_CV := if jokE V x y = 0 then w_now (v_rec V) (jokS (v_now V) (tN x) (tN y)) else V
def keyE (V : q_CV) (y : Int32) : Int32 := if isRd y = false then -1 else if tkyP (v_pc V) (v_pl V) = false then -3 else if isOp (v_now V) (tN y) = false then -5 else 0
def keyS (S : q_St) (r : Nat) (w : Int64) : q_St := u_key S (vp_updL (s_key S) r w)
def keyR (V : q_CV) (y : Int32) : Int32 := if keyE V y = 0 then nI (q_cnt (fun t => hasS (v_now V) t (tN y)) (s_n (v_now V))) else keyE V y
def keyV (V : q_CV) (y : Int32) : q_CV := if keyE V y = 0 then w_pl (w_now (v_rec V) (keyS (v_now V) (tN y) (sigs (v_pc V) 10))) 0 else V
def marE (V : q_CV) (m x y k : Int32) : Int32 := if isTm (v_now V) m = false then -1 else if isTm (v_now V) x = false then -1 else if isRd y = false then -1 else if m = x then -2 else if k < -20 then -2 else if ¬ k ≤ 10 then -2 else if isOp (v_now V) (tN y) = true then -5 else if hasS (v_now V) (tN x) (tN y) = false then -5 else if tldS (v_now V) (tN x) (tN y) = true then -5 else 0
def marS (S : q_St) (m t r : Nat) (k : Int32) : q_St := u_mkr (u_mar S (upd (s_mar S) (t * 8 + r) k)) (upd (s_mkr S) (t * 8 + r) (nI m))
def marR (V : q_CV) (m x y k : Int32) : Int32 := if marE V m x y k = 0 then 1 else marE V m x y k
def marV (V : q_CV) (m x y k : Int32) : q_CV := if marE V m x y k = 0 then w_now (v_rec V) (marS (v_now V) (tN m) (tN x) (tN y) k) else V
def lokE (V : q_CV) (x y : Int32) : Int32 := if isTm (v_now V) x = false then -1 else if isRd y = false then -1 else if tldS (v_now V) (tN x) (tN y) = false then -5 else if lokS (v_now V) (tN x) (tN y) = true then -5 else 0
def lokF (S : q_St) (t r : Nat) : q_St := if wroS S t r = true then u_fin S (upd (s_fin S) (tN (s_mkr S (t * 8 + r))) (s_fin S (tN (s_mkr S (t * 8 + r))) + 1)) else S
def lokT (S : q_St) (t r : Nat) : q_St := u_loo (u_mar (lokF S t r) (upd (s_mar S) (t * 8 + r) (truM S t r))) (upd (s_loo S) r (s_loo S r ||| ((1 : Int32) <<< (nI t &&& 31))))
def lokR (V : q_CV) (x y : Int32) : Int32 := if lokE V x y = 0 then bI (wroS (v_now V) (tN x) (tN y)) else lokE V x y
def lokV (V : q_CV) (x y : Int32) : q_CV := if lokE V x y = 0 then w_now (v_rec V) (lokT (v_now V) (tN x) (tN y)) else V
def gueE (V : q_CV) (x y : Int32) : Int32 := if isTm (v_now V) x = false then -1 else if y < 0 then -2 else if ¬ y ≤ 9999 then -2 else if ¬ s_tru (v_now V) = -6 then -5 else 0
def gueR (V : q_CV) (x y : Int32) : Int32 := if gueE V x y = 0 then s_gue (v_now V) (tN x) else gueE V x y
def gueV (V : q_CV) (x y : Int32) : q_CV := if gueE V x y = 0 then w_now (v_rec V) (u_gue (v_now V) (upd (s_gue (v_now V)) (tN x) y)) else V
def truE (V : q_CV) (y : Int32) : Int32 := if y < 0 then -2 else if ¬ y ≤ 9999 then -2 else if ¬ s_tru (v_now V) = -6 then -5 else 0
def truR (V : q_CV) (y : Int32) : Int32 := if truE V y = 0 then nI (gueN (v_now V)) else truE V y
def truV (V : q_CV) (y : Int32) : q_CV := if truE V y = 0 then w_now (v_rec V) (u_tru (v_now V) y) else V
def putE (V : q_CV) (x : Int64) : Int32 := if chN x 0 8 = 0 then -2 else if ¬ v_pl V + chN x 0 8 ≤ 80 then -4 else 0
def putR (V : q_CV) (x : Int64) : Int32 := if putE V x = 0 then nI (v_pl V + chN x 0 8) else putE V x
def putV (V : q_CV) (x : Int64) : q_CV := if putE V x = 0 then v_appk V x (chN x 0 8) else V
def undE (V : q_CV) : Int32 := if v_hl V = 0 then -5 else 0
def undR (V : q_CV) : Int32 := if undE V = 0 then nI (v_hl V - 1) else undE V
def undV (V : q_CV) : q_CV := if undE V = 0 then v_und V else V
def savE (x : Int32) : Int32 := if isSl x = false then -2 else 0
def savR (V : q_CV) (x : Int32) : Int32 := if savE x = 0 then nI (s_n (v_now V)) else savE x
def savV (V : q_CV) (x : Int32) : q_CV := if savE x = 0 then w_sav (w_sx V (va_up (v_sx V) (tN x + 7) (v_now V))) (upd (v_sav V) (tN x) 1) else V
def resE (V : q_CV) (x : Int32) : Int32 := if isSl x = false then -2 else if v_sav V (tN x) = 0 then -5 else 0
def resR (V : q_CV) (x : Int32) : Int32 := if resE V x = 0 then nI (s_n (v_sx V (tN x + 7))) else resE V x
def resV (V : q_CV) (x : Int32) : q_CV := if resE V x = 0 then w_now (v_rec V) (v_sx V (tN x + 7)) else V
def oftR (V : q_CV) (x w : Int32) : Int32 := if isTm (v_now V) x = false then -1 else if w = 0 then scoS (v_now V) (tN x) + 1000 else if w = 1 then nI (rnkS (v_now V) (tN x)) else if w = 2 then przS (v_now V) (tN x) else if w = 3 then s_jok (v_now V) (tN x) else if w = 4 then s_fin (v_now V) (tN x) else if w = 5 then s_gue (v_now V) (tN x) else if w = 6 then q_or (hasS (v_now V) (tN x)) 8 else if w = 7 then q_or (tldS (v_now V) (tN x)) 8 else if w = 8 then s_paid (v_now V) (tN x) else if w = 9 then tieS (v_now V) (tN x) else -2
def ofrR (V : q_CV) (y w : Int32) : Int32 := if isRd y = false then -1 else if w = 0 then bI (isOp (v_now V) (tN y)) else if w = 1 then q_or (fun t => hasS (v_now V) t (tN y)) (s_n (v_now V)) else if w = 2 then q_or (fun t => decide (s_jok (v_now V) t = nI (tN y))) (s_n (v_now V)) else if w = 3 then q_or (fun t => tldS (v_now V) t (tN y)) (s_n (v_now V)) else if w = 4 then s_loo (v_now V) (tN y) else if w = 5 then (if s_n (v_now V) = 0 then -6 else grtS (v_now V) (tN y) (s_n (v_now V)) + 100) else -2
def sheR (V : q_CV) (x y w : Int32) : Int32 := if isTm (v_now V) x = false then -1 else if isRd y = false then -1 else if hasS (v_now V) (tN x) (tN y) = false then -1 else if w = 0 then (if tldS (v_now V) (tN x) (tN y) = true then s_mar (v_now V) (tN x * 8 + tN y) + 100 else -6) else if w = 1 then s_mkr (v_now V) (tN x * 8 + tN y) else if w = 2 then ptsS (v_now V) (tN x) (tN y) + 100 else if w = 3 then (if isOp (v_now V) (tN y) = true then -6 else truM (v_now V) (tN x) (tN y) + 100) else if w = 4 then nI (ansN (v_now V) (tN x) (tN y)) else -2
def isQu (x : Int32) : Bool := !decide (x < 0) && !decide ((10 : Int32) ≤ x)
theorem isQu_of {x : Int32} (h : isQu x = true) : ∃ r : Nat, r < 10 ∧ x = nI r := by
  simp only [isQu, Bool.and_eq_true, Bool.not_eq_true', decide_eq_false_iff_not] at h
  obtain ⟨r, hr, rfl⟩ := nI_of h.1
  refine ⟨r, ?_, rfl⟩
  rcases Nat.lt_or_ge r 10 with q | q
  · exact q
  · exact absurd (nI_le q hr) h.2
def anwD (w : Int64) (z : Int32) : Int32 := if sgn w (tN z) = 15 then -6 else sgn w (tN z)
def anwR (V : q_CV) (x y z : Int32) : Int32 := if x = -6 then (if isRd y = false then -1 else if isOp (v_now V) (tN y) = true then -1 else if z < 0 then -2 else if (10 : Int32) ≤ z then -2 else anwD (s_key (v_now V) (tN y)) z) else if isTm (v_now V) x = false then -1 else if isRd y = false then -1 else if hasS (v_now V) (tN x) (tN y) = false then -1 else if z < 0 then -2 else if (10 : Int32) ≤ z then -2 else anwD (s_she (v_now V) (tN x * 8 + tN y)) z
def at_f (S : q_St) (x : Int32) (t : Nat) : Bool := !decide (plcS S t = x)
def atR (V : q_CV) (x : Int32) : Int32 := if lead (at_f (v_now V) x) (s_n (v_now V)) = s_n (v_now V) then -1 else nI (lead (at_f (v_now V) x) (s_n (v_now V)))
def couR (V : q_CV) (w : Int32) : Int32 := if w = 0 then nI (s_n (v_now V)) else if w = 1 then entS (v_now V) else if w = 2 then houS (v_now V) else if w = 3 then potS (v_now V) else if w = 4 then q_or (isOp (v_now V)) 8 else if w = 5 then finA (v_now V) else if w = 6 then looA (v_now V) else if w = 7 then s_tru (v_now V) else if w = 8 then nI (unlS (v_now V)) else if w = 9 then s_set (v_now V) 0 else if w = 10 then s_set (v_now V) 1 else if w = 11 then s_set (v_now V) 2 else if w = 12 then s_set (v_now V) 3 else if w = 13 then nI (v_pl V) else if w = 14 then nI (v_hl V) else -2
def bejR (V : q_CV) (x w : Int32) : Int32 := if isTm (v_now V) x = false then -1 else if w = 0 then nI (besS (v_now V) (tN x) 8) else if w = 1 then swjS (v_now V) (tN x) (nI (besS (v_now V) (tN x) 8)) + 1000 else -2
def mosR (V : q_CV) (x : Int32) : Int32 := if isTm (v_now V) x = false then -1 else gscS (v_now V) (tN x) + 1000
def canR (V : q_CV) : Int32 := q_or (croS (v_now V)) (s_n (v_now V))
def iflR (V : q_CV) (x : Int32) : Int32 := if isTm (v_now V) x = false then -1 else silS (v_now V) (tN x) + 1000
def wroR (V : q_CV) : Int32 := nI (wroA (v_now V) (s_n (v_now V)))
def leaS (k : Nat) : Int32 := if k = 0 then 1 else 0
def graS (k : Nat) : Int32 := if k = 0 then 100 else if k = 1 then 50 else if k = 2 then 2 else 9
def setE (x y : Int32) : Int32 := if x < 0 then -2 else if (3 : Int32) < x then -2 else if y < leaS (tN x) then -2 else if ¬ y ≤ graS (tN x) then -2 else 0
def setR (V : q_CV) (x y : Int32) : Int32 := if setE x y = 0 then s_set (v_now V) (tN x) else setE x y
def setV (V : q_CV) (x y : Int32) : q_CV := if setE x y = 0 then w_now (v_rec V) (u_set (v_now V) (upd (s_set (v_now V)) (tN x) y)) else V
theorem chN_le (x : Int64) : ∀ (f k : Nat), chN x k f ≤ k + f
  | 0, k => Nat.le_refl k
  | f + 1, k => by
    have h := chN_le x f (k + 1)
    unfold chN
    split
    · omega
    · split <;> omega
