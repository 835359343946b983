/-! the law's cases -/
set_option maxHeartbeats 4000000 in
set_option maxRecDepth 100000 in
theorem law_set {p : Program} {l : Launch} {e : Env} {s : State} {m : MethodId} {below : List Frame} {meth : Method} {c : Code} {bs L : Nat} {xs : Nat → Int32} {g : q_G} {a : Nat → Nat → Nat} {b d : Nat → Nat} {K i : Nat} {V : q_CV} {M : q_MV} {cells slots : Nat} {Q : State → Prop} (C0 : lw_C p s m c bs L xs g a b d) (hi : i + 5 ≤ L) (hL : L ≤ 2560) (hK5 : K ≤ 512) (hr : q_rel K V M) {H : Heap} {locs : List Loc} (hS : va_S (fun q : Nat => s.heap.size ≤ q) s.heap H locs) (hP : va_P g.1 vwCl (q_pqW g a b V) H) (hM : va_P g.1 vwCl (q_mdW g d M) H) {ls : Array Slot} (hl : lv_has ls 4 [(3, .int (nI i)), (0, .ref bs), (1, .ref (b 0)), (2, .ref (d 0))]) (hc : cells ≤ 600000) (hs : slots ≤ 7302250) (kk : ∀ (V1 : q_CV) (M1 : q_MV) (H1 : Heap) (locs1 : List Loc), q_rel (K + 1) V1 M1 → va_S (fun q : Nat => s.heap.size ≤ q) s.heap H1 locs1 → va_P g.1 vwCl (q_pqW g a b V1) H1 → va_P g.1 vwCl (q_mdW g d M1) H1 → W p l e room_1 s m #[Value.ref bs] below meth c H1 locs1 cells slots Q (F0 m 870 ls [])) : W p l e room_1 s m #[Value.ref bs] below meth c H locs cells slots Q (F0 m 152 ls []) := by
  obtain ⟨hx, hb, hml, hown, hts, hX, hbl, hK, hN, hT, hI, hJ, hAa, hAd, hAx⟩ := C0
  have hbA : ¬ (fun q : Nat => s.heap.size ≤ q) bs := Nat.not_le.mpr hbl
  obtain ⟨⟨hcp, hok⟩, ⟨hpl, hln, hpd⟩, ⟨hst, hh6, hn6, hH⟩, hSl⟩ := id hr
  have hn10 := ok_n hok
  have hst6 : m_st M ≤ 6 := by omega
  refine lv_aload_n hx hb dL_law_152 rfl (lv_at hl 2 rfl) ?_
  refine lv_aload_n hx hb dL_law_153 rfl (lv_at hl 1 rfl) ?_
  refine lv_iload_n hx hb dL_law_154 rfl (lv_at hl 0 rfl) ?_
  refine lv_iconst (v := 1) hx hb dL_law_155 (by decide) ?_
  refine lv_iadd hx hb dL_law_156 ?_
  refine q_reI (show ((nI i) + 1 : Int32) = nI (i + 1) from nI_add i 1) ?_
  refine va_sld hx hb hX hbl hbA hS (vp_in_nI (by omega) (by omega)) dL_law_157 ?_
  refine q_ildj (f := xs) (by omega) ?_
  refine lv_aload_n hx hb dL_law_158 rfl (lv_at hl 1 rfl) ?_
  refine lv_iload_n hx hb dL_law_159 rfl (lv_at hl 0 rfl) ?_
  refine lv_iconst (v := 2) hx hb dL_law_160 (by decide) ?_
  refine lv_iadd hx hb dL_law_161 ?_
  refine q_reI (show ((nI i) + 2 : Int32) = nI (i + 2) from nI_add i 2) ?_
  refine va_sld hx hb hX hbl hbA hS (vp_in_nI (by omega) (by omega)) dL_law_162 ?_
  refine q_ildj (f := xs) (by omega) ?_
  refine q_VM (As := [.int (xs (i + 1)), .int (xs (i + 2))]) (rest := []) (st2 := [.int (setR V (xs (i + 1)) (xs (i + 2)))]) (c2 := cells) (s2 := slots) ⟨hx, hb, hml, hown, hts⟩ (c_X4_set l g a b V hI (xs (i + 1)) (xs (i + 2)) hn6 hh6) (cwV 2 hts gL_law_X4_set rfl rfl rfl (by decide +kernel) ⟨(Nat.le_of_ble_eq_true rfl), (Nat.le_of_ble_eq_true rfl)⟩) (fun a1 U f mk h => ⟨q_B_blind a1 U f mk h.1, q_ST_blind a1 U f mk h.2⟩) (va_recv hK hP (ci := 3) (q0 := 0) rfl rfl) (fun U hU hW => ⟨q_B_of hP hK hN U hU hW, q_ST_at hT hS hAa U hU hW⟩) rfl hl.1 rfl (Nat.le_of_ble_eq_true rfl) dL_law_163 hc hs hS hAa rfl rfl rfl (fun H locs hP hF hS _ => ?_)
  have hM := q_mdK hM hF hAx
  refine lv_aload_n hx hb dL_law_166 rfl (lv_at hl 3 rfl) ?_
  refine lv_aload_n hx hb dL_law_167 rfl (lv_at hl 1 rfl) ?_
  refine lv_iload_n hx hb dL_law_168 rfl (lv_at hl 0 rfl) ?_
  refine lv_iconst (v := 1) hx hb dL_law_169 (by decide) ?_
  refine lv_iadd hx hb dL_law_170 ?_
  refine q_reI (show ((nI i) + 1 : Int32) = nI (i + 1) from nI_add i 1) ?_
  refine va_sld hx hb hX hbl hbA hS (vp_in_nI (by omega) (by omega)) dL_law_171 ?_
  refine q_ildj (f := xs) (by omega) ?_
  refine lv_aload_n hx hb dL_law_172 rfl (lv_at hl 1 rfl) ?_
  refine lv_iload_n hx hb dL_law_173 rfl (lv_at hl 0 rfl) ?_
  refine lv_iconst (v := 2) hx hb dL_law_174 (by decide) ?_
  refine lv_iadd hx hb dL_law_175 ?_
  refine q_reI (show ((nI i) + 2 : Int32) = nI (i + 2) from nI_add i 2) ?_
  refine va_sld hx hb hX hbl hbA hS (vp_in_nI (by omega) (by omega)) dL_law_176 ?_
  refine q_ildj (f := xs) (by omega) ?_
  refine q_VM (As := [.int (xs (i + 1)), .int (xs (i + 2))]) (rest := [.int (setR V (xs (i + 1)) (xs (i + 2)))]) (st2 := [.int (setR V (xs (i + 1)) (xs (i + 2))), .int (setR V (xs (i + 1)) (xs (i + 2)))]) (c2 := cells) (s2 := slots) ⟨hx, hb, hml, hown, hts⟩ (c_X5_set l g d M hJ V K hcp hok hK5 (xs (i + 1)) (xs (i + 2)) hst6) (cwV 2 hts gL_law_X5_set rfl rfl rfl (by decide +kernel) ⟨(Nat.le_of_ble_eq_true rfl), (Nat.le_of_ble_eq_true rfl)⟩) q_B_blind (va_recv hK hM (ci := 4) (q0 := 0) rfl rfl) (q_B_of hM hK hN) rfl hl.1 rfl (Nat.le_of_ble_eq_true rfl) dL_law_177 hc hs hS hAd rfl rfl rfl (fun H locs hM hF hS _ => ?_)
  have hP := q_pqK hP hF hAx
  refine lv_icmp_eq (tgt := 870) hx hb dL_law_180 (by decide) (fun _ => ?_) (fun hne => absurd rfl hne)
  exact kk _ _ _ _ (rl_set hr (xs (i + 1)) (xs (i + 2))) hS hP hM

set_option maxHeartbeats 4000000 in
set_option maxRecDepth 100000 in
theorem law_team {p : Program} {l : Launch} {e : Env} {s : State} {m : MethodId} {below : List Frame} {meth : Method} {c : Code} {bs L : Nat} {xs : Nat → Int32} {g : q_G} {a : Nat → Nat → Nat} {b d : Nat → Nat} {K i : Nat} {V : q_CV} {M : q_MV} {cells slots : Nat} {Q : State → Prop} (C0 : lw_C p s m c bs L xs g a b d) (hi : i + 5 ≤ L) (hL : L ≤ 2560) (hK5 : K ≤ 512) (hr : q_rel K V M) {H : Heap} {locs : List Loc} (hS : va_S (fun q : Nat => s.heap.size ≤ q) s.heap H locs) (hP : va_P g.1 vwCl (q_pqW g a b V) H) (hM : va_P g.1 vwCl (q_mdW g d M) H) {ls : Array Slot} (hl : lv_has ls 4 [(3, .int (nI i)), (0, .ref bs), (1, .ref (b 0)), (2, .ref (d 0))]) (hc : cells ≤ 600000) (hs : slots ≤ 7302250) (kk : ∀ (V1 : q_CV) (M1 : q_MV) (H1 : Heap) (locs1 : List Loc), q_rel (K + 1) V1 M1 → va_S (fun q : Nat => s.heap.size ≤ q) s.heap H1 locs1 → va_P g.1 vwCl (q_pqW g a b V1) H1 → va_P g.1 vwCl (q_mdW g d M1) H1 → W p l e room_1 s m #[Value.ref bs] below meth c H1 locs1 cells slots Q (F0 m 870 ls [])) : W p l e room_1 s m #[Value.ref bs] below meth c H locs cells slots Q (F0 m 185 ls []) := by
  obtain ⟨hx, hb, hml, hown, hts, hX, hbl, hK, hN, hT, hI, hJ, hAa, hAd, hAx⟩ := C0
  have hbA : ¬ (fun q : Nat => s.heap.size ≤ q) bs := Nat.not_le.mpr hbl
  obtain ⟨⟨hcp, hok⟩, ⟨hpl, hln, hpd⟩, ⟨hst, hh6, hn6, hH⟩, hSl⟩ := id hr
  have hn10 := ok_n hok
  have hst6 : m_st M ≤ 6 := by omega
  refine lv_aload_n hx hb dL_law_185 rfl (lv_at hl 2 rfl) ?_
  refine q_VM (As := []) (rest := []) (st2 := [.int (teaR V)]) (c2 := cells) (s2 := slots) ⟨hx, hb, hml, hown, hts⟩ (c_X4_team l g a b V hI hn10 hn6 hh6) (cwV 0 hts gL_law_X4_team rfl rfl rfl (by decide +kernel) ⟨(Nat.le_of_ble_eq_true rfl), (Nat.le_of_ble_eq_true rfl)⟩) q_B_blind (va_recv hK hP (ci := 3) (q0 := 0) rfl rfl) (q_B_of hP hK hN) rfl hl.1 rfl (Nat.le_of_ble_eq_true rfl) dL_law_186 hc hs hS hAa rfl rfl rfl (fun H locs hP hF hS _ => ?_)
  have hM := q_mdK hM hF hAx
  refine lv_aload_n hx hb dL_law_189 rfl (lv_at hl 3 rfl) ?_
  refine q_VM (As := []) (rest := [.int (teaR V)]) (st2 := [.int (teaR V), .int (teaR V)]) (c2 := cells) (s2 := slots) ⟨hx, hb, hml, hown, hts⟩ (c_X5_team l g d M hJ V K hcp hok hK5 hst6) (cwV 0 hts gL_law_X5_team rfl rfl rfl (by decide +kernel) ⟨(Nat.le_of_ble_eq_true rfl), (Nat.le_of_ble_eq_true rfl)⟩) q_B_blind (va_recv hK hM (ci := 4) (q0 := 0) rfl rfl) (q_B_of hM hK hN) rfl hl.1 rfl (Nat.le_of_ble_eq_true rfl) dL_law_190 hc hs hS hAd rfl rfl rfl (fun H locs hM hF hS _ => ?_)
  have hP := q_pqK hP hF hAx
  refine lv_icmp_eq (tgt := 870) hx hb dL_law_193 (by decide) (fun _ => ?_) (fun hne => absurd rfl hne)
  exact kk _ _ _ _ (rl_tea hr) hS hP hM

set_option maxHeartbeats 4000000 in
set_option maxRecDepth 100000 in
theorem law_hand {p : Program} {l : Launch} {e : Env} {s : State} {m : MethodId} {below : List Frame} {meth : Method} {c : Code} {bs L : Nat} {xs : Nat → Int32} {g : q_G} {a : Nat → Nat → Nat} {b d : Nat → Nat} {K i : Nat} {V : q_CV} {M : q_MV} {cells slots : Nat} {Q : State → Prop} (C0 : lw_C p s m c bs L xs g a b d) (hi : i + 5 ≤ L) (hL : L ≤ 2560) (hK5 : K ≤ 512) (hr : q_rel K V M) {H : Heap} {locs : List Loc} (hS : va_S (fun q : Nat => s.heap.size ≤ q) s.heap H locs) (hP : va_P g.1 vwCl (q_pqW g a b V) H) (hM : va_P g.1 vwCl (q_mdW g d M) H) {ls : Array Slot} (hl : lv_has ls 4 [(3, .int (nI i)), (0, .ref bs), (1, .ref (b 0)), (2, .ref (d 0))]) (hc : cells ≤ 600000) (hs : slots ≤ 7302250) (kk : ∀ (V1 : q_CV) (M1 : q_MV) (H1 : Heap) (locs1 : List Loc), q_rel (K + 1) V1 M1 → va_S (fun q : Nat => s.heap.size ≤ q) s.heap H1 locs1 → va_P g.1 vwCl (q_pqW g a b V1) H1 → va_P g.1 vwCl (q_mdW g d M1) H1 → W p l e room_1 s m #[Value.ref bs] below meth c H1 locs1 cells slots Q (F0 m 870 ls [])) : W p l e room_1 s m #[Value.ref bs] below meth c H locs cells slots Q (F0 m 198 ls []) := by
  obtain ⟨hx, hb, hml, hown, hts, hX, hbl, hK, hN, hT, hI, hJ, hAa, hAd, hAx⟩ := C0
  have hbA : ¬ (fun q : Nat => s.heap.size ≤ q) bs := Nat.not_le.mpr hbl
  obtain ⟨⟨hcp, hok⟩, ⟨hpl, hln, hpd⟩, ⟨hst, hh6, hn6, hH⟩, hSl⟩ := id hr
  have hn10 := ok_n hok
  have hst6 : m_st M ≤ 6 := by omega
  refine lv_aload_n hx hb dL_law_198 rfl (lv_at hl 2 rfl) ?_
  refine lv_aload_n hx hb dL_law_199 rfl (lv_at hl 1 rfl) ?_
  refine lv_iload_n hx hb dL_law_200 rfl (lv_at hl 0 rfl) ?_
  refine lv_iconst (v := 1) hx hb dL_law_201 (by decide) ?_
  refine lv_iadd hx hb dL_law_202 ?_
  refine q_reI (show ((nI i) + 1 : Int32) = nI (i + 1) from nI_add i 1) ?_
  refine va_sld hx hb hX hbl hbA hS (vp_in_nI (by omega) (by omega)) dL_law_203 ?_
  refine q_ildj (f := xs) (by omega) ?_
  refine lv_aload_n hx hb dL_law_204 rfl (lv_at hl 1 rfl) ?_
  refine lv_iload_n hx hb dL_law_205 rfl (lv_at hl 0 rfl) ?_
  refine lv_iconst (v := 2) hx hb dL_law_206 (by decide) ?_
  refine lv_iadd hx hb dL_law_207 ?_
  refine q_reI (show ((nI i) + 2 : Int32) = nI (i + 2) from nI_add i 2) ?_
  refine va_sld hx hb hX hbl hbA hS (vp_in_nI (by omega) (by omega)) dL_law_208 ?_
  refine q_ildj (f := xs) (by omega) ?_
  refine q_VM (As := [.int (xs (i + 1)), .int (xs (i + 2))]) (rest := []) (st2 := [.int (hanR V (xs (i + 1)) (xs (i + 2)))]) (c2 := cells) (s2 := slots) ⟨hx, hb, hml, hown, hts⟩ (c_X4_hand l g a b V hI (xs (i + 1)) (xs (i + 2)) hn10 hn6 hh6 hpl) (cwV 2 hts gL_law_X4_hand rfl rfl rfl (by decide +kernel) ⟨(Nat.le_of_ble_eq_true rfl), (Nat.le_of_ble_eq_true rfl)⟩) q_B_blind (va_recv hK hP (ci := 3) (q0 := 0) rfl rfl) (q_B_of hP hK hN) rfl hl.1 rfl (Nat.le_of_ble_eq_true rfl) dL_law_209 hc hs hS hAa rfl rfl rfl (fun H locs hP hF hS _ => ?_)
  have hM := q_mdK hM hF hAx
  refine lv_aload_n hx hb dL_law_212 rfl (lv_at hl 3 rfl) ?_
  refine lv_aload_n hx hb dL_law_213 rfl (lv_at hl 1 rfl) ?_
  refine lv_iload_n hx hb dL_law_214 rfl (lv_at hl 0 rfl) ?_
  refine lv_iconst (v := 1) hx hb dL_law_215 (by decide) ?_
  refine lv_iadd hx hb dL_law_216 ?_
  refine q_reI (show ((nI i) + 1 : Int32) = nI (i + 1) from nI_add i 1) ?_
  refine va_sld hx hb hX hbl hbA hS (vp_in_nI (by omega) (by omega)) dL_law_217 ?_
  refine q_ildj (f := xs) (by omega) ?_
  refine lv_aload_n hx hb dL_law_218 rfl (lv_at hl 1 rfl) ?_
  refine lv_iload_n hx hb dL_law_219 rfl (lv_at hl 0 rfl) ?_
  refine lv_iconst (v := 2) hx hb dL_law_220 (by decide) ?_
  refine lv_iadd hx hb dL_law_221 ?_
  refine q_reI (show ((nI i) + 2 : Int32) = nI (i + 2) from nI_add i 2) ?_
  refine va_sld hx hb hX hbl hbA hS (vp_in_nI (by omega) (by omega)) dL_law_222 ?_
  refine q_ildj (f := xs) (by omega) ?_
  refine q_VM (As := [.int (xs (i + 1)), .int (xs (i + 2))]) (rest := [.int (hanR V (xs (i + 1)) (xs (i + 2)))]) (st2 := [.int (hanR V (xs (i + 1)) (xs (i + 2))), .int (hanR V (xs (i + 1)) (xs (i + 2)))]) (c2 := cells) (s2 := slots) ⟨hx, hb, hml, hown, hts⟩ (c_X5_hand l g d M hJ V K hcp hok hK5 hpl hln hpd (xs (i + 1)) (xs (i + 2)) hst6) (cwV 2 hts gL_law_X5_hand rfl rfl rfl (by decide +kernel) ⟨(Nat.le_of_ble_eq_true rfl), (Nat.le_of_ble_eq_true rfl)⟩) q_B_blind (va_recv hK hM (ci := 4) (q0 := 0) rfl rfl) (q_B_of hM hK hN) rfl hl.1 rfl (Nat.le_of_ble_eq_true rfl) dL_law_223 hc hs hS hAd rfl rfl rfl (fun H locs hM hF hS _ => ?_)
  have hP := q_pqK hP hF hAx
  refine lv_icmp_eq (tgt := 870) hx hb dL_law_226 (by decide) (fun _ => ?_) (fun hne => absurd rfl hne)
  exact kk _ _ _ _ (rl_han hr (xs (i + 1)) (xs (i + 2))) hS hP hM

set_option maxHeartbeats 4000000 in
set_option maxRecDepth 100000 in
theorem law_joker {p : Program} {l : Launch} {e : Env} {s : State} {m : MethodId} {below : List Frame} {meth : Method} {c : Code} {bs L : Nat} {xs : Nat → Int32} {g : q_G} {a : Nat → Nat → Nat} {b d : Nat → Nat} {K i : Nat} {V : q_CV} {M : q_MV} {cells slots : Nat} {Q : State → Prop} (C0 : lw_C p s m c bs L xs g a b d) (hi : i + 5 ≤ L) (hL : L ≤ 2560) (hK5 : K ≤ 512) (hr : q_rel K V M) {H : Heap} {locs : List Loc} (hS : va_S (fun q : Nat => s.heap.size ≤ q) s.heap H locs) (hP : va_P g.1 vwCl (q_pqW g a b V) H) (hM : va_P g.1 vwCl (q_mdW g d M) H) {ls : Array Slot} (hl : lv_has ls 4 [(3, .int (nI i)), (0, .ref bs), (1, .ref (b 0)), (2, .ref (d 0))]) (hc : cells ≤ 600000) (hs : slots ≤ 7302250) (kk : ∀ (V1 : q_CV) (M1 : q_MV) (H1 : Heap) (locs1 : List Loc), q_rel (K + 1) V1 M1 → va_S (fun q : Nat => s.heap.size ≤ q) s.heap H1 locs1 → va_P g.1 vwCl (q_pqW g a b V1) H1 → va_P g.1 vwCl (q_mdW g d M1) H1 → W p l e room_1 s m #[Value.ref bs] below meth c H1 locs1 cells slots Q (F0 m 870 ls [])) : W p l e room_1 s m #[Value.ref bs] below meth c H locs cells slots Q (F0 m 231 ls []) := by
  obtain ⟨hx, hb, hml, hown, hts, hX, hbl, hK, hN, hT, hI, hJ, hAa, hAd, hAx⟩ := C0
  have hbA : ¬ (fun q : Nat => s.heap.size ≤ q) bs := Nat.not_le.mpr hbl
  obtain ⟨⟨hcp, hok⟩, ⟨hpl, hln, hpd⟩, ⟨hst, hh6, hn6, hH⟩, hSl⟩ := id hr
  have hn10 := ok_n hok
  have hst6 : m_st M ≤ 6 := by omega
  refine lv_aload_n hx hb dL_law_231 rfl (lv_at hl 2 rfl) ?_
  refine lv_aload_n hx hb dL_law_232 rfl (lv_at hl 1 rfl) ?_
  refine lv_iload_n hx hb dL_law_233 rfl (lv_at hl 0 rfl) ?_
  refine lv_iconst (v := 1) hx hb dL_law_234 (by decide) ?_
  refine lv_iadd hx hb dL_law_235 ?_
  refine q_reI (show ((nI i) + 1 : Int32) = nI (i + 1) from nI_add i 1) ?_
  refine va_sld hx hb hX hbl hbA hS (vp_in_nI (by omega) (by omega)) dL_law_236 ?_
  refine q_ildj (f := xs) (by omega) ?_
  refine lv_aload_n hx hb dL_law_237 rfl (lv_at hl 1 rfl) ?_
  refine lv_iload_n hx hb dL_law_238 rfl (lv_at hl 0 rfl) ?_
  refine lv_iconst (v := 2) hx hb dL_law_239 (by decide) ?_
  refine lv_iadd hx hb dL_law_240 ?_
  refine q_reI (show ((nI i) + 2 : Int32) = nI (i + 2) from nI_add i 2) ?_
  refine va_sld hx hb hX hbl hbA hS (vp_in_nI (by omega) (by omega)) dL_law_241 ?_
  refine q_ildj (f := xs) (by omega) ?_
  refine q_VM (As := [.int (xs (i + 1)), .int (xs (i + 2))]) (rest := []) (st2 := [.int (jokR V (xs (i + 1)) (xs (i + 2)))]) (c2 := cells) (s2 := slots) ⟨hx, hb, hml, hown, hts⟩ (c_X4_joker l g a b V hI (xs (i + 1)) (xs (i + 2)) hn10 hn6 hh6) (cwV 2 hts gL_law_X4_joker rfl rfl rfl (by decide +kernel) ⟨(Nat.le_of_ble_eq_true rfl), (Nat.le_of_ble_eq_true rfl)⟩) q_B_blind (va_recv hK hP (ci := 3) (q0 := 0) rfl rfl) (q_B_of hP hK hN) rfl hl.1 rfl (Nat.le_of_ble_eq_true rfl) dL_law_242 hc hs hS hAa rfl rfl rfl (fun H locs hP hF hS _ => ?_)
  have hM := q_mdK hM hF hAx
  refine lv_aload_n hx hb dL_law_245 rfl (lv_at hl 3 rfl) ?_
  refine lv_aload_n hx hb dL_law_246 rfl (lv_at hl 1 rfl) ?_
  refine lv_iload_n hx hb dL_law_247 rfl (lv_at hl 0 rfl) ?_
  refine lv_iconst (v := 1) hx hb dL_law_248 (by decide) ?_
  refine lv_iadd hx hb dL_law_249 ?_
  refine q_reI (show ((nI i) + 1 : Int32) = nI (i + 1) from nI_add i 1) ?_
  refine va_sld hx hb hX hbl hbA hS (vp_in_nI (by omega) (by omega)) dL_law_250 ?_
  refine q_ildj (f := xs) (by omega) ?_
  refine lv_aload_n hx hb dL_law_251 rfl (lv_at hl 1 rfl) ?_
  refine lv_iload_n hx hb dL_law_252 rfl (lv_at hl 0 rfl) ?_
  refine lv_iconst (v := 2) hx hb dL_law_253 (by decide) ?_
  refine lv_iadd hx hb dL_law_254 ?_
  refine q_reI (show ((nI i) + 2 : Int32) = nI (i + 2) from nI_add i 2) ?_
  refine va_sld hx hb hX hbl hbA hS (vp_in_nI (by omega) (by omega)) dL_law_255 ?_
  refine q_ildj (f := xs) (by omega) ?_
  refine q_VM (As := [.int (xs (i + 1)), .int (xs (i + 2))]) (rest := [.int (jokR V (xs (i + 1)) (xs (i + 2)))]) (st2 := [.int (jokR V (xs (i + 1)) (xs (i + 2))), .int (jokR V (xs (i + 1)) (xs (i + 2)))]) (c2 := cells) (s2 := slots) ⟨hx, hb, hml, hown, hts⟩ (c_X5_joker l g d M hJ V K hcp hok hK5 (xs (i + 1)) (xs (i + 2)) hst6) (cwV 2 hts gL_law_X5_joker rfl rfl rfl (by decide +kernel) ⟨(Nat.le_of_ble_eq_true rfl), (Nat.le_of_ble_eq_true rfl)⟩) q_B_blind (va_recv hK hM (ci := 4) (q0 := 0) rfl rfl) (q_B_of hM hK hN) rfl hl.1 rfl (Nat.le_of_ble_eq_true rfl) dL_law_256 hc hs hS hAd rfl rfl rfl (fun H locs hM hF hS _ => ?_)
  have hP := q_pqK hP hF hAx
  refine lv_icmp_eq (tgt := 870) hx hb dL_law_259 (by decide) (fun _ => ?_) (fun hne => absurd rfl hne)
  exact kk _ _ _ _ (rl_jok hr (xs (i + 1)) (xs (i + 2))) hS hP hM

set_option maxHeartbeats 4000000 in
set_option maxRecDepth 100000 in
theorem law_key {p : Program} {l : Launch} {e : Env} {s : State} {m : MethodId} {below : List Frame} {meth : Method} {c : Code} {bs L : Nat} {xs : Nat → Int32} {g : q_G} {a : Nat → Nat → Nat} {b d : Nat → Nat} {K i : Nat} {V : q_CV} {M : q_MV} {cells slots : Nat} {Q : State → Prop} (C0 : lw_C p s m c bs L xs g a b d) (hi : i + 5 ≤ L) (hL : L ≤ 2560) (hK5 : K ≤ 512) (hr : q_rel K V M) {H : Heap} {locs : List Loc} (hS : va_S (fun q : Nat => s.heap.size ≤ q) s.heap H locs) (hP : va_P g.1 vwCl (q_pqW g a b V) H) (hM : va_P g.1 vwCl (q_mdW g d M) H) {ls : Array Slot} (hl : lv_has ls 4 [(3, .int (nI i)), (0, .ref bs), (1, .ref (b 0)), (2, .ref (d 0))]) (hc : cells ≤ 600000) (hs : slots ≤ 7302250) (kk : ∀ (V1 : q_CV) (M1 : q_MV) (H1 : Heap) (locs1 : List Loc), q_rel (K + 1) V1 M1 → va_S (fun q : Nat => s.heap.size ≤ q) s.heap H1 locs1 → va_P g.1 vwCl (q_pqW g a b V1) H1 → va_P g.1 vwCl (q_mdW g d M1) H1 → W p l e room_1 s m #[Value.ref bs] below meth c H1 locs1 cells slots Q (F0 m 870 ls [])) : W p l e room_1 s m #[Value.ref bs] below meth c H locs cells slots Q (F0 m 264 ls []) := by
  obtain ⟨hx, hb, hml, hown, hts, hX, hbl, hK, hN, hT, hI, hJ, hAa, hAd, hAx⟩ := C0
  have hbA : ¬ (fun q : Nat => s.heap.size ≤ q) bs := Nat.not_le.mpr hbl
  obtain ⟨⟨hcp, hok⟩, ⟨hpl, hln, hpd⟩, ⟨hst, hh6, hn6, hH⟩, hSl⟩ := id hr
  have hn10 := ok_n hok
  have hst6 : m_st M ≤ 6 := by omega
  refine lv_aload_n hx hb dL_law_264 rfl (lv_at hl 2 rfl) ?_
  refine lv_aload_n hx hb dL_law_265 rfl (lv_at hl 1 rfl) ?_
  refine lv_iload_n hx hb dL_law_266 rfl (lv_at hl 0 rfl) ?_
  refine lv_iconst (v := 1) hx hb dL_law_267 (by decide) ?_
  refine lv_iadd hx hb dL_law_268 ?_
  refine q_reI (show ((nI i) + 1 : Int32) = nI (i + 1) from nI_add i 1) ?_
  refine va_sld hx hb hX hbl hbA hS (vp_in_nI (by omega) (by omega)) dL_law_269 ?_
  refine q_ildj (f := xs) (by omega) ?_
  refine q_VM (As := [.int (xs (i + 1))]) (rest := []) (st2 := [.int (keyR V (xs (i + 1)))]) (c2 := cells) (s2 := slots) ⟨hx, hb, hml, hown, hts⟩ (c_X4_key l g a b V hI (xs (i + 1)) hn10 hn6 hh6 hpl) (cwV 1 hts gL_law_X4_key rfl rfl rfl (by decide +kernel) ⟨(Nat.le_of_ble_eq_true rfl), (Nat.le_of_ble_eq_true rfl)⟩) q_B_blind (va_recv hK hP (ci := 3) (q0 := 0) rfl rfl) (q_B_of hP hK hN) rfl hl.1 rfl (Nat.le_of_ble_eq_true rfl) dL_law_270 hc hs hS hAa rfl rfl rfl (fun H locs hP hF hS _ => ?_)
  have hM := q_mdK hM hF hAx
  refine lv_aload_n hx hb dL_law_273 rfl (lv_at hl 3 rfl) ?_
  refine lv_aload_n hx hb dL_law_274 rfl (lv_at hl 1 rfl) ?_
  refine lv_iload_n hx hb dL_law_275 rfl (lv_at hl 0 rfl) ?_
  refine lv_iconst (v := 1) hx hb dL_law_276 (by decide) ?_
  refine lv_iadd hx hb dL_law_277 ?_
  refine q_reI (show ((nI i) + 1 : Int32) = nI (i + 1) from nI_add i 1) ?_
  refine va_sld hx hb hX hbl hbA hS (vp_in_nI (by omega) (by omega)) dL_law_278 ?_
  refine q_ildj (f := xs) (by omega) ?_
  refine q_VM (As := [.int (xs (i + 1))]) (rest := [.int (keyR V (xs (i + 1)))]) (st2 := [.int (keyR V (xs (i + 1))), .int (keyR V (xs (i + 1)))]) (c2 := cells) (s2 := slots) ⟨hx, hb, hml, hown, hts⟩ (c_X5_key l g d M hJ V K hcp hok hK5 hpl hln hpd (xs (i + 1)) hst6) (cwV 1 hts gL_law_X5_key rfl rfl rfl (by decide +kernel) ⟨(Nat.le_of_ble_eq_true rfl), (Nat.le_of_ble_eq_true rfl)⟩) q_B_blind (va_recv hK hM (ci := 4) (q0 := 0) rfl rfl) (q_B_of hM hK hN) rfl hl.1 rfl (Nat.le_of_ble_eq_true rfl) dL_law_279 hc hs hS hAd rfl rfl rfl (fun H locs hM hF hS _ => ?_)
  have hP := q_pqK hP hF hAx
  refine lv_icmp_eq (tgt := 870) hx hb dL_law_282 (by decide) (fun _ => ?_) (fun hne => absurd rfl hne)
  exact kk _ _ _ _ (rl_key hr (xs (i + 1))) hS hP hM

set_option maxHeartbeats 4000000 in
set_option maxRecDepth 100000 in
theorem law_mark {p : Program} {l : Launch} {e : Env} {s : State} {m : MethodId} {below : List Frame} {meth : Method} {c : Code} {bs L : Nat} {xs : Nat → Int32} {g : q_G} {a : Nat → Nat → Nat} {b d : Nat → Nat} {K i : Nat} {V : q_CV} {M : q_MV} {cells slots : Nat} {Q : State → Prop} (C0 : lw_C p s m c bs L xs g a b d) (hi : i + 5 ≤ L) (hL : L ≤ 2560) (hK5 : K ≤ 512) (hr : q_rel K V M) {H : Heap} {locs : List Loc} (hS : va_S (fun q : Nat => s.heap.size ≤ q) s.heap H locs) (hP : va_P g.1 vwCl (q_pqW g a b V) H) (hM : va_P g.1 vwCl (q_mdW g d M) H) {ls : Array Slot} (hl : lv_has ls 4 [(3, .int (nI i)), (0, .ref bs), (1, .ref (b 0)), (2, .ref (d 0))]) (hc : cells ≤ 600000) (hs : slots ≤ 7302250) (kk : ∀ (V1 : q_CV) (M1 : q_MV) (H1 : Heap) (locs1 : List Loc), q_rel (K + 1) V1 M1 → va_S (fun q : Nat => s.heap.size ≤ q) s.heap H1 locs1 → va_P g.1 vwCl (q_pqW g a b V1) H1 → va_P g.1 vwCl (q_mdW g d M1) H1 → W p l e room_1 s m #[Value.ref bs] below meth c H1 locs1 cells slots Q (F0 m 870 ls [])) : W p l e room_1 s m #[Value.ref bs] below meth c H locs cells slots Q (F0 m 287 ls []) := by
  obtain ⟨hx, hb, hml, hown, hts, hX, hbl, hK, hN, hT, hI, hJ, hAa, hAd, hAx⟩ := C0
  have hbA : ¬ (fun q : Nat => s.heap.size ≤ q) bs := Nat.not_le.mpr hbl
  obtain ⟨⟨hcp, hok⟩, ⟨hpl, hln, hpd⟩, ⟨hst, hh6, hn6, hH⟩, hSl⟩ := id hr
  have hn10 := ok_n hok
  have hst6 : m_st M ≤ 6 := by omega
  refine lv_aload_n hx hb dL_law_287 rfl (lv_at hl 2 rfl) ?_
  refine lv_aload_n hx hb dL_law_288 rfl (lv_at hl 1 rfl) ?_
  refine lv_iload_n hx hb dL_law_289 rfl (lv_at hl 0 rfl) ?_
  refine lv_iconst (v := 1) hx hb dL_law_290 (by decide) ?_
  refine lv_iadd hx hb dL_law_291 ?_
  refine q_reI (show ((nI i) + 1 : Int32) = nI (i + 1) from nI_add i 1) ?_
  refine va_sld hx hb hX hbl hbA hS (vp_in_nI (by omega) (by omega)) dL_law_292 ?_
  refine q_ildj (f := xs) (by omega) ?_
  refine lv_aload_n hx hb dL_law_293 rfl (lv_at hl 1 rfl) ?_
  refine lv_iload_n hx hb dL_law_294 rfl (lv_at hl 0 rfl) ?_
  refine lv_iconst (v := 2) hx hb dL_law_295 (by decide) ?_
  refine lv_iadd hx hb dL_law_296 ?_
  refine q_reI (show ((nI i) + 2 : Int32) = nI (i + 2) from nI_add i 2) ?_
  refine va_sld hx hb hX hbl hbA hS (vp_in_nI (by omega) (by omega)) dL_law_297 ?_
  refine q_ildj (f := xs) (by omega) ?_
  refine lv_aload_n hx hb dL_law_298 rfl (lv_at hl 1 rfl) ?_
  refine lv_iload_n hx hb dL_law_299 rfl (lv_at hl 0 rfl) ?_
  refine lv_iconst (v := 3) hx hb dL_law_300 (by decide) ?_
  refine lv_iadd hx hb dL_law_301 ?_
  refine q_reI (show ((nI i) + 3 : Int32) = nI (i + 3) from nI_add i 3) ?_
  refine va_sld hx hb hX hbl hbA hS (vp_in_nI (by omega) (by omega)) dL_law_302 ?_
  refine q_ildj (f := xs) (by omega) ?_
  refine lv_aload_n hx hb dL_law_303 rfl (lv_at hl 1 rfl) ?_
  refine lv_iload_n hx hb dL_law_304 rfl (lv_at hl 0 rfl) ?_
  refine lv_iconst (v := 4) hx hb dL_law_305 (by decide) ?_
  refine lv_iadd hx hb dL_law_306 ?_
  refine q_reI (show ((nI i) + 4 : Int32) = nI (i + 4) from nI_add i 4) ?_
  refine va_sld hx hb hX hbl hbA hS (vp_in_nI (by omega) (by omega)) dL_law_307 ?_
  refine q_ildj (f := xs) (by omega) ?_
  refine q_VM (As := [.int (xs (i + 1)), .int (xs (i + 2)), .int (xs (i + 3)), .int (xs (i + 4))]) (rest := []) (st2 := [.int (marR V (xs (i + 1)) (xs (i + 2)) (xs (i + 3)) (xs (i + 4)))]) (c2 := cells) (s2 := slots) ⟨hx, hb, hml, hown, hts⟩ (c_X4_mark l g a b V hI (xs (i + 1)) (xs (i + 2)) (xs (i + 3)) (xs (i + 4)) hn10 hn6 hh6) (cwV 4 hts gL_law_X4_mark rfl rfl rfl (by decide +kernel) ⟨(Nat.le_of_ble_eq_true rfl), (Nat.le_of_ble_eq_true rfl)⟩) q_B_blind (va_recv hK hP (ci := 3) (q0 := 0) rfl rfl) (q_B_of hP hK hN) rfl hl.1 rfl (Nat.le_of_ble_eq_true rfl) dL_law_308 hc hs hS hAa rfl rfl rfl (fun H locs hP hF hS _ => ?_)
  have hM := q_mdK hM hF hAx
  refine lv_aload_n hx hb dL_law_311 rfl (lv_at hl 3 rfl) ?_
  refine lv_aload_n hx hb dL_law_312 rfl (lv_at hl 1 rfl) ?_
  refine lv_iload_n hx hb dL_law_313 rfl (lv_at hl 0 rfl) ?_
  refine lv_iconst (v := 1) hx hb dL_law_314 (by decide) ?_
  refine lv_iadd hx hb dL_law_315 ?_
  refine q_reI (show ((nI i) + 1 : Int32) = nI (i + 1) from nI_add i 1) ?_
  refine va_sld hx hb hX hbl hbA hS (vp_in_nI (by omega) (by omega)) dL_law_316 ?_
  refine q_ildj (f := xs) (by omega) ?_
  refine lv_aload_n hx hb dL_law_317 rfl (lv_at hl 1 rfl) ?_
  refine lv_iload_n hx hb dL_law_318 rfl (lv_at hl 0 rfl) ?_
  refine lv_iconst (v := 2) hx hb dL_law_319 (by decide) ?_
  refine lv_iadd hx hb dL_law_320 ?_
  refine q_reI (show ((nI i) + 2 : Int32) = nI (i + 2) from nI_add i 2) ?_
  refine va_sld hx hb hX hbl hbA hS (vp_in_nI (by omega) (by omega)) dL_law_321 ?_
  refine q_ildj (f := xs) (by omega) ?_
  refine lv_aload_n hx hb dL_law_322 rfl (lv_at hl 1 rfl) ?_
  refine lv_iload_n hx hb dL_law_323 rfl (lv_at hl 0 rfl) ?_
  refine lv_iconst (v := 3) hx hb dL_law_324 (by decide) ?_
  refine lv_iadd hx hb dL_law_325 ?_
  refine q_reI (show ((nI i) + 3 : Int32) = nI (i + 3) from nI_add i 3) ?_
  refine va_sld hx hb hX hbl hbA hS (vp_in_nI (by omega) (by omega)) dL_law_326 ?_
  refine q_ildj (f := xs) (by omega) ?_
  refine lv_aload_n hx hb dL_law_327 rfl (lv_at hl 1 rfl) ?_
  refine lv_iload_n hx hb dL_law_328 rfl (lv_at hl 0 rfl) ?_
  refine lv_iconst (v := 4) hx hb dL_law_329 (by decide) ?_
  refine lv_iadd hx hb dL_law_330 ?_
  refine q_reI (show ((nI i) + 4 : Int32) = nI (i + 4) from nI_add i 4) ?_
  refine va_sld hx hb hX hbl hbA hS (vp_in_nI (by omega) (by omega)) dL_law_331 ?_
  refine q_ildj (f := xs) (by omega) ?_
  refine q_VM (As := [.int (xs (i + 1)), .int (xs (i + 2)), .int (xs (i + 3)), .int (xs (i + 4))]) (rest := [.int (marR V (xs (i + 1)) (xs (i + 2)) (xs (i + 3)) (xs (i + 4)))]) (st2 := [.int (marR V (xs (i + 1)) (xs (i + 2)) (xs (i + 3)) (xs (i + 4))), .int (marR V (xs (i + 1)) (xs (i + 2)) (xs (i + 3)) (xs (i + 4)))]) (c2 := cells) (s2 := slots) ⟨hx, hb, hml, hown, hts⟩ (c_X5_mark l g d M hJ V K hcp hok hK5 (xs (i + 1)) (xs (i + 2)) (xs (i + 3)) (xs (i + 4)) hst6) (cwV 4 hts gL_law_X5_mark rfl rfl rfl (by decide +kernel) ⟨(Nat.le_of_ble_eq_true rfl), (Nat.le_of_ble_eq_true rfl)⟩) q_B_blind (va_recv hK hM (ci := 4) (q0 := 0) rfl rfl) (q_B_of hM hK hN) rfl hl.1 rfl (Nat.le_of_ble_eq_true rfl) dL_law_332 hc hs hS hAd rfl rfl rfl (fun H locs hM hF hS _ => ?_)
  have hP := q_pqK hP hF hAx
  refine lv_icmp_eq (tgt := 870) hx hb dL_law_335 (by decide) (fun _ => ?_) (fun hne => absurd rfl hne)
  exact kk _ _ _ _ (rl_mar hr (xs (i + 1)) (xs (i + 2)) (xs (i + 3)) (xs (i + 4))) hS hP hM

set_option maxHeartbeats 4000000 in
set_option maxRecDepth 100000 in
theorem law_look {p : Program} {l : Launch} {e : Env} {s : State} {m : MethodId} {below : List Frame} {meth : Method} {c : Code} {bs L : Nat} {xs : Nat → Int32} {g : q_G} {a : Nat → Nat → Nat} {b d : Nat → Nat} {K i : Nat} {V : q_CV} {M : q_MV} {cells slots : Nat} {Q : State → Prop} (C0 : lw_C p s m c bs L xs g a b d) (hi : i + 5 ≤ L) (hL : L ≤ 2560) (hK5 : K ≤ 512) (hr : q_rel K V M) {H : Heap} {locs : List Loc} (hS : va_S (fun q : Nat => s.heap.size ≤ q) s.heap H locs) (hP : va_P g.1 vwCl (q_pqW g a b V) H) (hM : va_P g.1 vwCl (q_mdW g d M) H) {ls : Array Slot} (hl : lv_has ls 4 [(3, .int (nI i)), (0, .ref bs), (1, .ref (b 0)), (2, .ref (d 0))]) (hc : cells ≤ 600000) (hs : slots ≤ 7302250) (kk : ∀ (V1 : q_CV) (M1 : q_MV) (H1 : Heap) (locs1 : List Loc), q_rel (K + 1) V1 M1 → va_S (fun q : Nat => s.heap.size ≤ q) s.heap H1 locs1 → va_P g.1 vwCl (q_pqW g a b V1) H1 → va_P g.1 vwCl (q_mdW g d M1) H1 → W p l e room_1 s m #[Value.ref bs] below meth c H1 locs1 cells slots Q (F0 m 870 ls [])) : W p l e room_1 s m #[Value.ref bs] below meth c H locs cells slots Q (F0 m 340 ls []) := by
  obtain ⟨hx, hb, hml, hown, hts, hX, hbl, hK, hN, hT, hI, hJ, hAa, hAd, hAx⟩ := C0
  have hbA : ¬ (fun q : Nat => s.heap.size ≤ q) bs := Nat.not_le.mpr hbl
  obtain ⟨⟨hcp, hok⟩, ⟨hpl, hln, hpd⟩, ⟨hst, hh6, hn6, hH⟩, hSl⟩ := id hr
  have hn10 := ok_n hok
  have hst6 : m_st M ≤ 6 := by omega
  refine lv_aload_n hx hb dL_law_340 rfl (lv_at hl 2 rfl) ?_
  refine lv_aload_n hx hb dL_law_341 rfl (lv_at hl 1 rfl) ?_
  refine lv_iload_n hx hb dL_law_342 rfl (lv_at hl 0 rfl) ?_
  refine lv_iconst (v := 1) hx hb dL_law_343 (by decide) ?_
  refine lv_iadd hx hb dL_law_344 ?_
  refine q_reI (show ((nI i) + 1 : Int32) = nI (i + 1) from nI_add i 1) ?_
  refine va_sld hx hb hX hbl hbA hS (vp_in_nI (by omega) (by omega)) dL_law_345 ?_
  refine q_ildj (f := xs) (by omega) ?_
  refine lv_aload_n hx hb dL_law_346 rfl (lv_at hl 1 rfl) ?_
  refine lv_iload_n hx hb dL_law_347 rfl (lv_at hl 0 rfl) ?_
  refine lv_iconst (v := 2) hx hb dL_law_348 (by decide) ?_
  refine lv_iadd hx hb dL_law_349 ?_
  refine q_reI (show ((nI i) + 2 : Int32) = nI (i + 2) from nI_add i 2) ?_
  refine va_sld hx hb hX hbl hbA hS (vp_in_nI (by omega) (by omega)) dL_law_350 ?_
  refine q_ildj (f := xs) (by omega) ?_
  refine q_VM (As := [.int (xs (i + 1)), .int (xs (i + 2))]) (rest := []) (st2 := [.int (lokR V (xs (i + 1)) (xs (i + 2)))]) (c2 := cells) (s2 := slots) ⟨hx, hb, hml, hown, hts⟩ (c_X4_look l g a b V hI (xs (i + 1)) (xs (i + 2)) hn10 hn6 hh6 (fun _ _ q1 q2 q3 => ok_mk hok q1 q2 q3)) (cwV 2 hts gL_law_X4_look rfl rfl rfl (by decide +kernel) ⟨(Nat.le_of_ble_eq_true rfl), (Nat.le_of_ble_eq_true rfl)⟩) q_B_blind (va_recv hK hP (ci := 3) (q0 := 0) rfl rfl) (q_B_of hP hK hN) rfl hl.1 rfl (Nat.le_of_ble_eq_true rfl) dL_law_351 hc hs hS hAa rfl rfl rfl (fun H locs hP hF hS _ => ?_)
  have hM := q_mdK hM hF hAx
  refine lv_aload_n hx hb dL_law_354 rfl (lv_at hl 3 rfl) ?_
  refine lv_aload_n hx hb dL_law_355 rfl (lv_at hl 1 rfl) ?_
  refine lv_iload_n hx hb dL_law_356 rfl (lv_at hl 0 rfl) ?_
  refine lv_iconst (v := 1) hx hb dL_law_357 (by decide) ?_
  refine lv_iadd hx hb dL_law_358 ?_
  refine q_reI (show ((nI i) + 1 : Int32) = nI (i + 1) from nI_add i 1) ?_
  refine va_sld hx hb hX hbl hbA hS (vp_in_nI (by omega) (by omega)) dL_law_359 ?_
  refine q_ildj (f := xs) (by omega) ?_
  refine lv_aload_n hx hb dL_law_360 rfl (lv_at hl 1 rfl) ?_
  refine lv_iload_n hx hb dL_law_361 rfl (lv_at hl 0 rfl) ?_
  refine lv_iconst (v := 2) hx hb dL_law_362 (by decide) ?_
  refine lv_iadd hx hb dL_law_363 ?_
  refine q_reI (show ((nI i) + 2 : Int32) = nI (i + 2) from nI_add i 2) ?_
  refine va_sld hx hb hX hbl hbA hS (vp_in_nI (by omega) (by omega)) dL_law_364 ?_
  refine q_ildj (f := xs) (by omega) ?_
  refine q_VM (As := [.int (xs (i + 1)), .int (xs (i + 2))]) (rest := [.int (lokR V (xs (i + 1)) (xs (i + 2)))]) (st2 := [.int (lokR V (xs (i + 1)) (xs (i + 2))), .int (lokR V (xs (i + 1)) (xs (i + 2)))]) (c2 := cells) (s2 := slots) ⟨hx, hb, hml, hown, hts⟩ (c_X5_look l g d M hJ V K hcp hok hK5 (xs (i + 1)) (xs (i + 2)) hst6) (cwV 2 hts gL_law_X5_look rfl rfl rfl (by decide +kernel) ⟨(Nat.le_of_ble_eq_true rfl), (Nat.le_of_ble_eq_true rfl)⟩) q_B_blind (va_recv hK hM (ci := 4) (q0 := 0) rfl rfl) (q_B_of hM hK hN) rfl hl.1 rfl (Nat.le_of_ble_eq_true rfl) dL_law_365 hc hs hS hAd rfl rfl rfl (fun H locs hM hF hS _ => ?_)
  have hP := q_pqK hP hF hAx
  refine lv_icmp_eq (tgt := 870) hx hb dL_law_368 (by decide) (fun _ => ?_) (fun hne => absurd rfl hne)
  exact kk _ _ _ _ (rl_lok hr (xs (i + 1)) (xs (i + 2))) hS hP hM

set_option maxHeartbeats 4000000 in
set_option maxRecDepth 100000 in
theorem law_guess {p : Program} {l : Launch} {e : Env} {s : State} {m : MethodId} {below : List Frame} {meth : Method} {c : Code} {bs L : Nat} {xs : Nat → Int32} {g : q_G} {a : Nat → Nat → Nat} {b d : Nat → Nat} {K i : Nat} {V : q_CV} {M : q_MV} {cells slots : Nat} {Q : State → Prop} (C0 : lw_C p s m c bs L xs g a b d) (hi : i + 5 ≤ L) (hL : L ≤ 2560) (hK5 : K ≤ 512) (hr : q_rel K V M) {H : Heap} {locs : List Loc} (hS : va_S (fun q : Nat => s.heap.size ≤ q) s.heap H locs) (hP : va_P g.1 vwCl (q_pqW g a b V) H) (hM : va_P g.1 vwCl (q_mdW g d M) H) {ls : Array Slot} (hl : lv_has ls 4 [(3, .int (nI i)), (0, .ref bs), (1, .ref (b 0)), (2, .ref (d 0))]) (hc : cells ≤ 600000) (hs : slots ≤ 7302250) (kk : ∀ (V1 : q_CV) (M1 : q_MV) (H1 : Heap) (locs1 : List Loc), q_rel (K + 1) V1 M1 → va_S (fun q : Nat => s.heap.size ≤ q) s.heap H1 locs1 → va_P g.1 vwCl (q_pqW g a b V1) H1 → va_P g.1 vwCl (q_mdW g d M1) H1 → W p l e room_1 s m #[Value.ref bs] below meth c H1 locs1 cells slots Q (F0 m 870 ls [])) : W p l e room_1 s m #[Value.ref bs] below meth c H locs cells slots Q (F0 m 373 ls []) := by
  obtain ⟨hx, hb, hml, hown, hts, hX, hbl, hK, hN, hT, hI, hJ, hAa, hAd, hAx⟩ := C0
  have hbA : ¬ (fun q : Nat => s.heap.size ≤ q) bs := Nat.not_le.mpr hbl
  obtain ⟨⟨hcp, hok⟩, ⟨hpl, hln, hpd⟩, ⟨hst, hh6, hn6, hH⟩, hSl⟩ := id hr
  have hn10 := ok_n hok
  have hst6 : m_st M ≤ 6 := by omega
  refine lv_aload_n hx hb dL_law_373 rfl (lv_at hl 2 rfl) ?_
  refine lv_aload_n hx hb dL_law_374 rfl (lv_at hl 1 rfl) ?_
  refine lv_iload_n hx hb dL_law_375 rfl (lv_at hl 0 rfl) ?_
  refine lv_iconst (v := 1) hx hb dL_law_376 (by decide) ?_
  refine lv_iadd hx hb dL_law_377 ?_
  refine q_reI (show ((nI i) + 1 : Int32) = nI (i + 1) from nI_add i 1) ?_
  refine va_sld hx hb hX hbl hbA hS (vp_in_nI (by omega) (by omega)) dL_law_378 ?_
  refine q_ildj (f := xs) (by omega) ?_
  refine lv_aload_n hx hb dL_law_379 rfl (lv_at hl 1 rfl) ?_
  refine lv_iload_n hx hb dL_law_380 rfl (lv_at hl 0 rfl) ?_
  refine lv_iconst (v := 2) hx hb dL_law_381 (by decide) ?_
  refine lv_iadd hx hb dL_law_382 ?_
  refine q_reI (show ((nI i) + 2 : Int32) = nI (i + 2) from nI_add i 2) ?_
  refine va_sld hx hb hX hbl hbA hS (vp_in_nI (by omega) (by omega)) dL_law_383 ?_
  refine q_ildj (f := xs) (by omega) ?_
  refine q_VM (As := [.int (xs (i + 1)), .int (xs (i + 2))]) (rest := []) (st2 := [.int (gueR V (xs (i + 1)) (xs (i + 2)))]) (c2 := cells) (s2 := slots) ⟨hx, hb, hml, hown, hts⟩ (c_X4_guess l g a b V hI (xs (i + 1)) (xs (i + 2)) hn10 hn6 hh6) (cwV 2 hts gL_law_X4_guess rfl rfl rfl (by decide +kernel) ⟨(Nat.le_of_ble_eq_true rfl), (Nat.le_of_ble_eq_true rfl)⟩) q_B_blind (va_recv hK hP (ci := 3) (q0 := 0) rfl rfl) (q_B_of hP hK hN) rfl hl.1 rfl (Nat.le_of_ble_eq_true rfl) dL_law_384 hc hs hS hAa rfl rfl rfl (fun H locs hP hF hS _ => ?_)
  have hM := q_mdK hM hF hAx
  refine lv_aload_n hx hb dL_law_387 rfl (lv_at hl 3 rfl) ?_
  refine lv_aload_n hx hb dL_law_388 rfl (lv_at hl 1 rfl) ?_
  refine lv_iload_n hx hb dL_law_389 rfl (lv_at hl 0 rfl) ?_
  refine lv_iconst (v := 1) hx hb dL_law_390 (by decide) ?_
  refine lv_iadd hx hb dL_law_391 ?_
  refine q_reI (show ((nI i) + 1 : Int32) = nI (i + 1) from nI_add i 1) ?_
  refine va_sld hx hb hX hbl hbA hS (vp_in_nI (by omega) (by omega)) dL_law_392 ?_
  refine q_ildj (f := xs) (by omega) ?_
  refine lv_aload_n hx hb dL_law_393 rfl (lv_at hl 1 rfl) ?_
  refine lv_iload_n hx hb dL_law_394 rfl (lv_at hl 0 rfl) ?_
  refine lv_iconst (v := 2) hx hb dL_law_395 (by decide) ?_
  refine lv_iadd hx hb dL_law_396 ?_
  refine q_reI (show ((nI i) + 2 : Int32) = nI (i + 2) from nI_add i 2) ?_
  refine va_sld hx hb hX hbl hbA hS (vp_in_nI (by omega) (by omega)) dL_law_397 ?_
  refine q_ildj (f := xs) (by omega) ?_
  refine q_VM (As := [.int (xs (i + 1)), .int (xs (i + 2))]) (rest := [.int (gueR V (xs (i + 1)) (xs (i + 2)))]) (st2 := [.int (gueR V (xs (i + 1)) (xs (i + 2))), .int (gueR V (xs (i + 1)) (xs (i + 2)))]) (c2 := cells) (s2 := slots) ⟨hx, hb, hml, hown, hts⟩ (c_X5_guess l g d M hJ V K hcp hok hK5 (xs (i + 1)) (xs (i + 2)) hst6) (cwV 2 hts gL_law_X5_guess rfl rfl rfl (by decide +kernel) ⟨(Nat.le_of_ble_eq_true rfl), (Nat.le_of_ble_eq_true rfl)⟩) q_B_blind (va_recv hK hM (ci := 4) (q0 := 0) rfl rfl) (q_B_of hM hK hN) rfl hl.1 rfl (Nat.le_of_ble_eq_true rfl) dL_law_398 hc hs hS hAd rfl rfl rfl (fun H locs hM hF hS _ => ?_)
  have hP := q_pqK hP hF hAx
  refine lv_icmp_eq (tgt := 870) hx hb dL_law_401 (by decide) (fun _ => ?_) (fun hne => absurd rfl hne)
  exact kk _ _ _ _ (rl_gue hr (xs (i + 1)) (xs (i + 2))) hS hP hM

set_option maxHeartbeats 4000000 in
set_option maxRecDepth 100000 in
theorem law_truth {p : Program} {l : Launch} {e : Env} {s : State} {m : MethodId} {below : List Frame} {meth : Method} {c : Code} {bs L : Nat} {xs : Nat → Int32} {g : q_G} {a : Nat → Nat → Nat} {b d : Nat → Nat} {K i : Nat} {V : q_CV} {M : q_MV} {cells slots : Nat} {Q : State → Prop} (C0 : lw_C p s m c bs L xs g a b d) (hi : i + 5 ≤ L) (hL : L ≤ 2560) (hK5 : K ≤ 512) (hr : q_rel K V M) {H : Heap} {locs : List Loc} (hS : va_S (fun q : Nat => s.heap.size ≤ q) s.heap H locs) (hP : va_P g.1 vwCl (q_pqW g a b V) H) (hM : va_P g.1 vwCl (q_mdW g d M) H) {ls : Array Slot} (hl : lv_has ls 4 [(3, .int (nI i)), (0, .ref bs), (1, .ref (b 0)), (2, .ref (d 0))]) (hc : cells ≤ 600000) (hs : slots ≤ 7302250) (kk : ∀ (V1 : q_CV) (M1 : q_MV) (H1 : Heap) (locs1 : List Loc), q_rel (K + 1) V1 M1 → va_S (fun q : Nat => s.heap.size ≤ q) s.heap H1 locs1 → va_P g.1 vwCl (q_pqW g a b V1) H1 → va_P g.1 vwCl (q_mdW g d M1) H1 → W p l e room_1 s m #[Value.ref bs] below meth c H1 locs1 cells slots Q (F0 m 870 ls [])) : W p l e room_1 s m #[Value.ref bs] below meth c H locs cells slots Q (F0 m 406 ls []) := by
  obtain ⟨hx, hb, hml, hown, hts, hX, hbl, hK, hN, hT, hI, hJ, hAa, hAd, hAx⟩ := C0
  have hbA : ¬ (fun q : Nat => s.heap.size ≤ q) bs := Nat.not_le.mpr hbl
  obtain ⟨⟨hcp, hok⟩, ⟨hpl, hln, hpd⟩, ⟨hst, hh6, hn6, hH⟩, hSl⟩ := id hr
  have hn10 := ok_n hok
  have hst6 : m_st M ≤ 6 := by omega
  refine lv_aload_n hx hb dL_law_406 rfl (lv_at hl 2 rfl) ?_
  refine lv_aload_n hx hb dL_law_407 rfl (lv_at hl 1 rfl) ?_
  refine lv_iload_n hx hb dL_law_408 rfl (lv_at hl 0 rfl) ?_
  refine lv_iconst (v := 1) hx hb dL_law_409 (by decide) ?_
  refine lv_iadd hx hb dL_law_410 ?_
  refine q_reI (show ((nI i) + 1 : Int32) = nI (i + 1) from nI_add i 1) ?_
  refine va_sld hx hb hX hbl hbA hS (vp_in_nI (by omega) (by omega)) dL_law_411 ?_
  refine q_ildj (f := xs) (by omega) ?_
  refine q_VM (As := [.int (xs (i + 1))]) (rest := []) (st2 := [.int (truR V (xs (i + 1)))]) (c2 := cells) (s2 := slots) ⟨hx, hb, hml, hown, hts⟩ (c_X4_truth l g a b V hI (xs (i + 1)) hn10 hn6 hh6) (cwV 1 hts gL_law_X4_truth rfl rfl rfl (by decide +kernel) ⟨(Nat.le_of_ble_eq_true rfl), (Nat.le_of_ble_eq_true rfl)⟩) q_B_blind (va_recv hK hP (ci := 3) (q0 := 0) rfl rfl) (q_B_of hP hK hN) rfl hl.1 rfl (Nat.le_of_ble_eq_true rfl) dL_law_412 hc hs hS hAa rfl rfl rfl (fun H locs hP hF hS _ => ?_)
  have hM := q_mdK hM hF hAx
  refine lv_aload_n hx hb dL_law_415 rfl (lv_at hl 3 rfl) ?_
  refine lv_aload_n hx hb dL_law_416 rfl (lv_at hl 1 rfl) ?_
  refine lv_iload_n hx hb dL_law_417 rfl (lv_at hl 0 rfl) ?_
  refine lv_iconst (v := 1) hx hb dL_law_418 (by decide) ?_
  refine lv_iadd hx hb dL_law_419 ?_
  refine q_reI (show ((nI i) + 1 : Int32) = nI (i + 1) from nI_add i 1) ?_
  refine va_sld hx hb hX hbl hbA hS (vp_in_nI (by omega) (by omega)) dL_law_420 ?_
  refine q_ildj (f := xs) (by omega) ?_
  refine q_VM (As := [.int (xs (i + 1))]) (rest := [.int (truR V (xs (i + 1)))]) (st2 := [.int (truR V (xs (i + 1))), .int (truR V (xs (i + 1)))]) (c2 := cells) (s2 := slots) ⟨hx, hb, hml, hown, hts⟩ (c_X5_truth l g d M hJ V K hcp hok hK5 (xs (i + 1)) hst6) (cwV 1 hts gL_law_X5_truth rfl rfl rfl (by decide +kernel) ⟨(Nat.le_of_ble_eq_true rfl), (Nat.le_of_ble_eq_true rfl)⟩) q_B_blind (va_recv hK hM (ci := 4) (q0 := 0) rfl rfl) (q_B_of hM hK hN) rfl hl.1 rfl (Nat.le_of_ble_eq_true rfl) dL_law_421 hc hs hS hAd rfl rfl rfl (fun H locs hM hF hS _ => ?_)
  have hP := q_pqK hP hF hAx
  refine lv_icmp_eq (tgt := 870) hx hb dL_law_424 (by decide) (fun _ => ?_) (fun hne => absurd rfl hne)
  exact kk _ _ _ _ (rl_tru hr (xs (i + 1))) hS hP hM
