set_option maxRecDepth 100000 in
set_option maxHeartbeats 1000000 in
theorem sh_chambers {p : Program} {l : Launch} {e : Env} {s : State} {m : MethodId} {below : List Frame} {meth : Method} {c : Code} {H : Heap} {locs : List Loc} {cells slots : Nat} {Q : State → Prop} {ls : Array Slot} {D : va_G} {A : Nat → Prop} {cI cZ cJ : ClassId} {b N : Nat} {xs : Nat → Int32} {i : Int} {S0 M0 O0 : Nat} {wc wc1 wR wM wM1 : va_W} {r r1 : Int} {fx fm : List Value} (hF : LFx p s m c b N xs D (ty3 cI cZ cJ) A) (hi : 3 ≤ i ∧ i + 3 < (N : Int)) (hN : N ≤ 2051) (hf : cells ≤ room_1.cells ∧ slots ≤ room_1.slots) (hX : Di l yX5_chambers wsX5_chambers 25 [.ref S0] D (ty3 cI cZ cJ) wc r wc1) (hM : Di l yX6_chambers wsX6_chambers 25 [.ref M0] D (ty3 cI cZ cJ) wM r1 wM1) (hrr : r = r1) (hx5 : wc[0]? = some (S0, .inr (5, fx))) (hm : wM[0]? = some (M0, .inr (6, fm))) (hP : va_P D vwCl ((wc ++ wR) ++ wM) H) (hD : va_D A ((wc ++ wR) ++ wM)) (hS : va_S A s.heap H locs) (hl : lv_has ls 9 [(0, .ref b), (1, .ref S0), (2, .ref M0), (3, .ref O0), (4, .int (iI i))])
  (K : ∀ (H : Heap) (locs : List Loc) (ls : Array Slot), va_P D vwCl ((wc1 ++ wR) ++ wM1) H → va_D A ((wc1 ++ wR) ++ wM1) → va_S A s.heap H locs → lv_has ls 9 [(0, .ref b), (1, .ref S0), (2, .ref M0), (3, .ref O0), (4, .int (iI i))] → W p l e room_1 s m #[Value.ref b] below meth c H locs cells slots Q (F0 m 1733 ls [])) :
  W p l e room_1 s m #[Value.ref b] below meth c H locs cells slots Q (F0 m 212 ls []) := by
  obtain ⟨hx, hb, hml, hts, hown, hXs, hbl, hbA, hA, hK, hNW, hXP, hNC⟩ := hF
  rw [List.append_assoc] at hP hD
  refine lv_aload_n hx hb dL_law_212 rfl (lv_at hl 1 rfl) ?_
  refine cl_p (As := []) (rest := []) (ci := 5) (q0 := 0) ⟨hx, hb, hml, hown, hts⟩ hX (cwV 0 hts gL_law_X5_chambers rfl rfl rfl (by decide +kernel) ⟨Nat.le_of_ble_eq_true rfl, Nat.le_of_ble_eq_true rfl⟩) hK hNW hP hD hS hA rfl rfl hx5 rfl hl.1 rfl (Nat.le_of_ble_eq_true rfl) dL_law_213 hf (fun H locs hP hD hS => ?_)
  rw [← List.append_assoc] at hP hD
  have hP := wp_perm (wq_c _ _) hP
  have hD := wd_perm (wq_c _ _) hD
  refine lv_aload_n hx hb dL_law_216 rfl (lv_at hl 2 rfl) ?_
  refine cl_p (As := []) (rest := [.int (iI r)]) (ci := 6) (q0 := 0) ⟨hx, hb, hml, hown, hts⟩ hM (cwV 0 hts gL_law_X6_chambers rfl rfl rfl (by decide +kernel) ⟨Nat.le_of_ble_eq_true rfl, Nat.le_of_ble_eq_true rfl⟩) hK hNW hP hD hS hA rfl rfl hm rfl hl.1 rfl (Nat.le_of_ble_eq_true rfl) dL_law_217 hf (fun H locs hP hD hS => ?_)
  have hP := wp_perm (wq_c _ _) hP
  have hD := wd_perm (wq_c _ _) hD
  refine li_icmp_eq_s (tgt := 1733) hx hb dL_law_220 (by decide) hrr ?_
  exact K _ _ _ hP hD hS (lv_sub hl [0, 1, 2, 3, 4] rfl)

set_option maxRecDepth 100000 in
set_option maxHeartbeats 1000000 in
theorem sh_levelOf {p : Program} {l : Launch} {e : Env} {s : State} {m : MethodId} {below : List Frame} {meth : Method} {c : Code} {H : Heap} {locs : List Loc} {cells slots : Nat} {Q : State → Prop} {ls : Array Slot} {D : va_G} {A : Nat → Prop} {cI cZ cJ : ClassId} {b N : Nat} {xs : Nat → Int32} {i : Int} {S0 M0 O0 : Nat} {wc wc1 wR wM wM1 : va_W} {wM2 : va_W} {k r : Int} {fm fm1 : List Value} (hF : LFx p s m c b N xs D (ty3 cI cZ cJ) A) (hi : 3 ≤ i ∧ i + 3 < (N : Int)) (hN : N ≤ 2051) (hf : cells + 1 ≤ room_1.cells ∧ slots + 6 ≤ room_1.slots) (hk : ib k) (hX : CW l yL_levelOf wsL_levelOf 26 [.ref S0, .int (iI (sx xs (i + 1))), .ref O0] D (ty3 cI cZ cJ) wc k wc1) (hM : Di l yX6_levelOf wsX6_levelOf 25 [.ref M0, .int (iI (sx xs (i + 1)))] D (ty3 cI cZ cJ) wM r wM1) (hT : Di l yX6_thrown wsX6_thrown 1 [.ref M0] D (ty3 cI cZ cJ) wM1 k wM2) (hm : wM[0]? = some (M0, .inr (6, fm))) (hm1 : wM1[0]? = some (M0, .inr (6, fm1))) (ho : k = 0 → ∃ (q : Nat) (f : Nat → Int64), wc1[q]? = some (O0, .inl (cJ, 1, .inr (.inl f))) ∧ f 0 = (iI r).toInt64) (hP : va_P D vwCl ((wc ++ wR) ++ wM) H) (hD : va_D A ((wc ++ wR) ++ wM)) (hS : va_S A s.heap H locs) (hl : lv_has ls 9 [(0, .ref b), (1, .ref S0), (2, .ref M0), (3, .ref O0), (4, .int (iI i))])
  (K : ∀ (H : Heap) (locs : List Loc) (ls : Array Slot), va_P D vwCl ((wc1 ++ wR) ++ wM2) H → va_D A ((wc1 ++ wR) ++ wM2) → va_S A s.heap H locs → lv_has ls 9 [(0, .ref b), (1, .ref S0), (2, .ref M0), (3, .ref O0), (4, .int (iI i))] → W p l e room_1 s m #[Value.ref b] below meth c H locs (cells + 1) (slots + 6) Q (F0 m 1733 ls [])) :
  W p l e room_1 s m #[Value.ref b] below meth c H locs cells slots Q (F0 m 225 ls []) := by
  obtain ⟨hx, hb, hml, hts, hown, hXs, hbl, hbA, hA, hK, hNW, hXP, hNC⟩ := hF
  have i_1 := sx_b xs (i + 1)
  rw [List.append_assoc] at hP hD
  refine lv_aload_n hx hb dL_law_225 rfl (lv_at hl 1 rfl) ?_
  refine lv_aload_n hx hb dL_law_226 rfl (lv_at hl 0 rfl) ?_
  refine lv_iload hx hb dL_law_227 (lv_at hl 4 rfl) ?_
  refine li_const hx hb dL_law_229 ?_
  refine li_add hx hb dL_law_230 ?_
  refine li_sld hx hb hXs hbl hbA hS (by omega) (by omega) (ib_i (by omega) (by omega)) dL_law_231 ?_
  refine lv_aload_n hx hb dL_law_232 rfl (lv_at hl 3 rfl) ?_
  refine cs_p (As := [.ref S0, .int (iI (sx xs (i + 1))), .ref O0]) (rest := []) (hh := [(0, 9, 12, 13)]) ⟨hx, hb, hml, hown, hts⟩ hX (vx_cwSW 3 hts gL_law_L_levelOf rfl rfl rfl (by decide +kernel) ⟨Nat.le_of_ble_eq_true rfl, Nat.le_of_ble_eq_true rfl⟩) hK hNW hXP hNC hP hD hS hA rfl hl.1 rfl (Nat.le_of_ble_eq_true rfl) dL_law_233 hf (fun H locs hP hD hS => ?_)
  rw [← List.append_assoc] at hP hD
  have hP := wp_perm (wq_c _ _) hP
  have hD := wd_perm (wq_c _ _) hD
  refine lv_istore (lv' := [(5, .int (iI k)), (0, .ref b), (1, .ref S0), (2, .ref M0), (3, .ref O0), (4, .int (iI i))]) hx hb dL_law_236 hl (by decide) rfl (fun ls hl => ?_)
  refine lv_aload_n hx hb dL_law_238 rfl (lv_at hl 3 rfl) ?_
  refine lv_aload_n hx hb dL_law_239 rfl (lv_at hl 1 rfl) ?_
  refine lv_iload hx hb dL_law_240 (lv_at hl 5 rfl) ?_
  refine li_const hx hb dL_law_242 ?_
  refine li_add hx hb dL_law_243 ?_
  refine li_sld hx hb hXs hbl hbA hS (by omega) (by omega) (ib_i (by omega) (by omega)) dL_law_244 ?_
  refine cl_p (As := [.int (iI (sx xs (i + 1)))]) (rest := []) (ci := 6) (q0 := 0) ⟨hx, hb, hml, hown, hts⟩ hM (cwV 1 hts gL_law_X6_levelOf rfl rfl rfl (by decide +kernel) ⟨Nat.le_of_ble_eq_true rfl, Nat.le_of_ble_eq_true rfl⟩) hK hNW hP hD hS hA rfl rfl hm rfl hl.1 rfl (Nat.le_of_ble_eq_true rfl) dL_law_245 hf (fun H locs hP hD hS => ?_)
  refine lv_istore (lv' := [(6, .int (iI r)), (5, .int (iI k)), (0, .ref b), (1, .ref S0), (2, .ref M0), (3, .ref O0), (4, .int (iI i))]) hx hb dL_law_248 hl (by decide) rfl (fun ls hl => ?_)
  refine lv_aload_n hx hb dL_law_250 rfl (lv_at hl 4 rfl) ?_
  refine cl_p (As := []) (rest := []) (ci := 6) (q0 := 0) ⟨hx, hb, hml, hown, hts⟩ hT (cwV 0 hts gL_law_X6_thrown rfl rfl rfl (by decide +kernel) ⟨Nat.le_of_ble_eq_true rfl, Nat.le_of_ble_eq_true rfl⟩) hK hNW hP hD hS hA rfl rfl hm1 rfl hl.1 rfl (Nat.le_of_ble_eq_true rfl) dL_law_251 hf (fun H locs hP hD hS => ?_)
  have hP := wp_perm (wq_c _ _) hP
  have hD := wd_perm (wq_c _ _) hD
  refine lv_iload hx hb dL_law_254 (lv_at hl 1 rfl) ?_
  refine li_icmp_eq_s (tgt := 261) hx hb dL_law_256 (by decide) rfl ?_
  refine lv_iload hx hb dL_law_261 (lv_at hl 1 rfl) ?_
  refine li_if_ne (tgt := 278) hx hb dL_law_263 (by decide) hk (fun _ => ?_) (fun c_0 => ?_)
  · refine lv_goto (tgt := 1733) hx hb dL_law_278 (by decide) ?_
    exact K _ _ _ hP hD hS (lv_sub hl [2, 3, 4, 5, 6] rfl)
  · obtain ⟨q, f, hq, hf0⟩ := ho c_0
    refine lv_aload_n hx hb dL_law_266 rfl (lv_at hl 5 rfl) ?_
    refine li_const hx hb dL_law_267 ?_
    refine li_lald0 (q0 := q) (t0 := 2) (v := (iI r).toInt64) hx hb hK hP (wg_l (wg_l hq)) rfl hf0 dL_law_268 ?_
    refine lv_iload hx hb dL_law_269 (lv_at hl 0 rfl) ?_
    refine lv_i2l (v := (iI r).toInt64) hx hb dL_law_271 rfl ?_
    refine li_lceq hx hb rfl dL_law_272 ?_
    refine li_if_eq_t (tgt := 278) hx hb dL_law_273 (by decide) (by decide) (by decide) ?_
    refine lv_goto (tgt := 1733) hx hb dL_law_278 (by decide) ?_
    exact K _ _ _ hP hD hS (lv_sub hl [2, 3, 4, 5, 6] rfl)

set_option maxRecDepth 100000 in
set_option maxHeartbeats 1000000 in
theorem sh_poundLevel {p : Program} {l : Launch} {e : Env} {s : State} {m : MethodId} {below : List Frame} {meth : Method} {c : Code} {H : Heap} {locs : List Loc} {cells slots : Nat} {Q : State → Prop} {ls : Array Slot} {D : va_G} {A : Nat → Prop} {cI cZ cJ : ClassId} {b N : Nat} {xs : Nat → Int32} {i : Int} {S0 M0 O0 : Nat} {wc wc1 wR wM wM1 : va_W} {r r1 : Int} {fx fm : List Value} (hF : LFx p s m c b N xs D (ty3 cI cZ cJ) A) (hi : 3 ≤ i ∧ i + 3 < (N : Int)) (hN : N ≤ 2051) (hf : cells ≤ room_1.cells ∧ slots ≤ room_1.slots) (hX : Di l yX5_poundLevel wsX5_poundLevel 25 [.ref S0] D (ty3 cI cZ cJ) wc r wc1) (hM : Di l yX6_poundLevel wsX6_poundLevel 25 [.ref M0] D (ty3 cI cZ cJ) wM r1 wM1) (hrr : r = r1) (hx5 : wc[0]? = some (S0, .inr (5, fx))) (hm : wM[0]? = some (M0, .inr (6, fm))) (hP : va_P D vwCl ((wc ++ wR) ++ wM) H) (hD : va_D A ((wc ++ wR) ++ wM)) (hS : va_S A s.heap H locs) (hl : lv_has ls 9 [(0, .ref b), (1, .ref S0), (2, .ref M0), (3, .ref O0), (4, .int (iI i))])
  (K : ∀ (H : Heap) (locs : List Loc) (ls : Array Slot), va_P D vwCl ((wc1 ++ wR) ++ wM1) H → va_D A ((wc1 ++ wR) ++ wM1) → va_S A s.heap H locs → lv_has ls 9 [(0, .ref b), (1, .ref S0), (2, .ref M0), (3, .ref O0), (4, .int (iI i))] → W p l e room_1 s m #[Value.ref b] below meth c H locs cells slots Q (F0 m 1733 ls [])) :
  W p l e room_1 s m #[Value.ref b] below meth c H locs cells slots Q (F0 m 281 ls []) := by
  obtain ⟨hx, hb, hml, hts, hown, hXs, hbl, hbA, hA, hK, hNW, hXP, hNC⟩ := hF
  rw [List.append_assoc] at hP hD
  refine lv_aload_n hx hb dL_law_281 rfl (lv_at hl 1 rfl) ?_
  refine cl_p (As := []) (rest := []) (ci := 5) (q0 := 0) ⟨hx, hb, hml, hown, hts⟩ hX (cwV 0 hts gL_law_X5_poundLevel rfl rfl rfl (by decide +kernel) ⟨Nat.le_of_ble_eq_true rfl, Nat.le_of_ble_eq_true rfl⟩) hK hNW hP hD hS hA rfl rfl hx5 rfl hl.1 rfl (Nat.le_of_ble_eq_true rfl) dL_law_282 hf (fun H locs hP hD hS => ?_)
  rw [← List.append_assoc] at hP hD
  have hP := wp_perm (wq_c _ _) hP
  have hD := wd_perm (wq_c _ _) hD
  refine lv_aload_n hx hb dL_law_285 rfl (lv_at hl 2 rfl) ?_
  refine cl_p (As := []) (rest := [.int (iI r)]) (ci := 6) (q0 := 0) ⟨hx, hb, hml, hown, hts⟩ hM (cwV 0 hts gL_law_X6_poundLevel rfl rfl rfl (by decide +kernel) ⟨Nat.le_of_ble_eq_true rfl, Nat.le_of_ble_eq_true rfl⟩) hK hNW hP hD hS hA rfl rfl hm rfl hl.1 rfl (Nat.le_of_ble_eq_true rfl) dL_law_286 hf (fun H locs hP hD hS => ?_)
  have hP := wp_perm (wq_c _ _) hP
  have hD := wd_perm (wq_c _ _) hD
  refine li_icmp_eq_s (tgt := 1733) hx hb dL_law_289 (by decide) hrr ?_
  exact K _ _ _ hP hD hS (lv_sub hl [0, 1, 2, 3, 4] rfl)

set_option maxRecDepth 100000 in
set_option maxHeartbeats 1000000 in
theorem sh_poundDepth {p : Program} {l : Launch} {e : Env} {s : State} {m : MethodId} {below : List Frame} {meth : Method} {c : Code} {H : Heap} {locs : List Loc} {cells slots : Nat} {Q : State → Prop} {ls : Array Slot} {D : va_G} {A : Nat → Prop} {cI cZ cJ : ClassId} {b N : Nat} {xs : Nat → Int32} {i : Int} {S0 M0 O0 : Nat} {wc wc1 wR wM wM1 : va_W} {r r1 : Int} {fx fm : List Value} (hF : LFx p s m c b N xs D (ty3 cI cZ cJ) A) (hi : 3 ≤ i ∧ i + 3 < (N : Int)) (hN : N ≤ 2051) (hf : cells ≤ room_1.cells ∧ slots ≤ room_1.slots) (hX : Di l yX5_poundDepth wsX5_poundDepth 25 [.ref S0] D (ty3 cI cZ cJ) wc r wc1) (hM : Di l yX6_poundDepth wsX6_poundDepth 25 [.ref M0] D (ty3 cI cZ cJ) wM r1 wM1) (hrr : r = r1) (hx5 : wc[0]? = some (S0, .inr (5, fx))) (hm : wM[0]? = some (M0, .inr (6, fm))) (hP : va_P D vwCl ((wc ++ wR) ++ wM) H) (hD : va_D A ((wc ++ wR) ++ wM)) (hS : va_S A s.heap H locs) (hl : lv_has ls 9 [(0, .ref b), (1, .ref S0), (2, .ref M0), (3, .ref O0), (4, .int (iI i))])
  (K : ∀ (H : Heap) (locs : List Loc) (ls : Array Slot), va_P D vwCl ((wc1 ++ wR) ++ wM1) H → va_D A ((wc1 ++ wR) ++ wM1) → va_S A s.heap H locs → lv_has ls 9 [(0, .ref b), (1, .ref S0), (2, .ref M0), (3, .ref O0), (4, .int (iI i))] → W p l e room_1 s m #[Value.ref b] below meth c H locs cells slots Q (F0 m 1733 ls [])) :
  W p l e room_1 s m #[Value.ref b] below meth c H locs cells slots Q (F0 m 294 ls []) := by
  obtain ⟨hx, hb, hml, hts, hown, hXs, hbl, hbA, hA, hK, hNW, hXP, hNC⟩ := hF
  rw [List.append_assoc] at hP hD
  refine lv_aload_n hx hb dL_law_294 rfl (lv_at hl 1 rfl) ?_
  refine cl_p (As := []) (rest := []) (ci := 5) (q0 := 0) ⟨hx, hb, hml, hown, hts⟩ hX (cwV 0 hts gL_law_X5_poundDepth rfl rfl rfl (by decide +kernel) ⟨Nat.le_of_ble_eq_true rfl, Nat.le_of_ble_eq_true rfl⟩) hK hNW hP hD hS hA rfl rfl hx5 rfl hl.1 rfl (Nat.le_of_ble_eq_true rfl) dL_law_295 hf (fun H locs hP hD hS => ?_)
  rw [← List.append_assoc] at hP hD
  have hP := wp_perm (wq_c _ _) hP
  have hD := wd_perm (wq_c _ _) hD
  refine lv_aload_n hx hb dL_law_298 rfl (lv_at hl 2 rfl) ?_
  refine cl_p (As := []) (rest := [.int (iI r)]) (ci := 6) (q0 := 0) ⟨hx, hb, hml, hown, hts⟩ hM (cwV 0 hts gL_law_X6_poundDepth rfl rfl rfl (by decide +kernel) ⟨Nat.le_of_ble_eq_true rfl, Nat.le_of_ble_eq_true rfl⟩) hK hNW hP hD hS hA rfl rfl hm rfl hl.1 rfl (Nat.le_of_ble_eq_true rfl) dL_law_299 hf (fun H locs hP hD hS => ?_)
  have hP := wp_perm (wq_c _ _) hP
  have hD := wd_perm (wq_c _ _) hD
  refine li_icmp_eq_s (tgt := 1733) hx hb dL_law_302 (by decide) hrr ?_
  exact K _ _ _ hP hD hS (lv_sub hl [0, 1, 2, 3, 4] rfl)

set_option maxRecDepth 100000 in
set_option maxHeartbeats 1000000 in
theorem sh_poundWater {p : Program} {l : Launch} {e : Env} {s : State} {m : MethodId} {below : List Frame} {meth : Method} {c : Code} {H : Heap} {locs : List Loc} {cells slots : Nat} {Q : State → Prop} {ls : Array Slot} {D : va_G} {A : Nat → Prop} {cI cZ cJ : ClassId} {b N : Nat} {xs : Nat → Int32} {i : Int} {S0 M0 O0 : Nat} {wc wc1 wR wM wM1 : va_W} {r r1 : Int} {fx fm : List Value} (hF : LFx p s m c b N xs D (ty3 cI cZ cJ) A) (hi : 3 ≤ i ∧ i + 3 < (N : Int)) (hN : N ≤ 2051) (hf : cells ≤ room_1.cells ∧ slots ≤ room_1.slots) (hX : Di l yX5_poundWater wsX5_poundWater 25 [.ref S0] D (ty3 cI cZ cJ) wc r wc1) (hM : Di l yX6_poundWater wsX6_poundWater 25 [.ref M0] D (ty3 cI cZ cJ) wM r1 wM1) (hrr : r = r1) (hx5 : wc[0]? = some (S0, .inr (5, fx))) (hm : wM[0]? = some (M0, .inr (6, fm))) (hP : va_P D vwCl ((wc ++ wR) ++ wM) H) (hD : va_D A ((wc ++ wR) ++ wM)) (hS : va_S A s.heap H locs) (hl : lv_has ls 9 [(0, .ref b), (1, .ref S0), (2, .ref M0), (3, .ref O0), (4, .int (iI i))])
  (K : ∀ (H : Heap) (locs : List Loc) (ls : Array Slot), va_P D vwCl ((wc1 ++ wR) ++ wM1) H → va_D A ((wc1 ++ wR) ++ wM1) → va_S A s.heap H locs → lv_has ls 9 [(0, .ref b), (1, .ref S0), (2, .ref M0), (3, .ref O0), (4, .int (iI i))] → W p l e room_1 s m #[Value.ref b] below meth c H locs cells slots Q (F0 m 1733 ls [])) :
  W p l e room_1 s m #[Value.ref b] below meth c H locs cells slots Q (F0 m 307 ls []) := by
  obtain ⟨hx, hb, hml, hts, hown, hXs, hbl, hbA, hA, hK, hNW, hXP, hNC⟩ := hF
  rw [List.append_assoc] at hP hD
  refine lv_aload_n hx hb dL_law_307 rfl (lv_at hl 1 rfl) ?_
  refine cl_p (As := []) (rest := []) (ci := 5) (q0 := 0) ⟨hx, hb, hml, hown, hts⟩ hX (cwV 0 hts gL_law_X5_poundWater rfl rfl rfl (by decide +kernel) ⟨Nat.le_of_ble_eq_true rfl, Nat.le_of_ble_eq_true rfl⟩) hK hNW hP hD hS hA rfl rfl hx5 rfl hl.1 rfl (Nat.le_of_ble_eq_true rfl) dL_law_308 hf (fun H locs hP hD hS => ?_)
  rw [← List.append_assoc] at hP hD
  have hP := wp_perm (wq_c _ _) hP
  have hD := wd_perm (wq_c _ _) hD
  refine lv_aload_n hx hb dL_law_311 rfl (lv_at hl 2 rfl) ?_
  refine cl_p (As := []) (rest := [.int (iI r)]) (ci := 6) (q0 := 0) ⟨hx, hb, hml, hown, hts⟩ hM (cwV 0 hts gL_law_X6_poundWater rfl rfl rfl (by decide +kernel) ⟨Nat.le_of_ble_eq_true rfl, Nat.le_of_ble_eq_true rfl⟩) hK hNW hP hD hS hA rfl rfl hm rfl hl.1 rfl (Nat.le_of_ble_eq_true rfl) dL_law_312 hf (fun H locs hP hD hS => ?_)
  have hP := wp_perm (wq_c _ _) hP
  have hD := wd_perm (wq_c _ _) hD
  refine li_icmp_eq_s (tgt := 1733) hx hb dL_law_315 (by decide) hrr ?_
  exact K _ _ _ hP hD hS (lv_sub hl [0, 1, 2, 3, 4] rfl)

set_option maxRecDepth 100000 in
set_option maxHeartbeats 1000000 in
theorem sh_rain {p : Program} {l : Launch} {e : Env} {s : State} {m : MethodId} {below : List Frame} {meth : Method} {c : Code} {H : Heap} {locs : List Loc} {cells slots : Nat} {Q : State → Prop} {ls : Array Slot} {D : va_G} {A : Nat → Prop} {cI cZ cJ : ClassId} {b N : Nat} {xs : Nat → Int32} {i : Int} {S0 M0 O0 : Nat} {wc wc1 wR wM wM1 : va_W} {wM2 : va_W} {k r : Int} {fm fm1 : List Value} (hF : LFx p s m c b N xs D (ty3 cI cZ cJ) A) (hi : 3 ≤ i ∧ i + 3 < (N : Int)) (hN : N ≤ 2051) (hf : cells + 1 ≤ room_1.cells ∧ slots + 6 ≤ room_1.slots) (hk : ib k) (hX : CW l yL_rain wsL_rain 26 [.ref S0, .int (iI (sx xs (i + 1))), .ref O0] D (ty3 cI cZ cJ) wc k wc1) (hM : Di l yX6_rain wsX6_rain 25 [.ref M0, .int (iI (sx xs (i + 1)))] D (ty3 cI cZ cJ) wM r wM1) (hT : Di l yX6_thrown wsX6_thrown 1 [.ref M0] D (ty3 cI cZ cJ) wM1 k wM2) (hm : wM[0]? = some (M0, .inr (6, fm))) (hm1 : wM1[0]? = some (M0, .inr (6, fm1))) (ho : k = 0 → ∃ (q : Nat) (f : Nat → Int64), wc1[q]? = some (O0, .inl (cJ, 1, .inr (.inl f))) ∧ f 0 = (iI r).toInt64) (hP : va_P D vwCl ((wc ++ wR) ++ wM) H) (hD : va_D A ((wc ++ wR) ++ wM)) (hS : va_S A s.heap H locs) (hl : lv_has ls 9 [(0, .ref b), (1, .ref S0), (2, .ref M0), (3, .ref O0), (4, .int (iI i))])
  (K : ∀ (H : Heap) (locs : List Loc) (ls : Array Slot), va_P D vwCl ((wc1 ++ wR) ++ wM2) H → va_D A ((wc1 ++ wR) ++ wM2) → va_S A s.heap H locs → lv_has ls 9 [(0, .ref b), (1, .ref S0), (2, .ref M0), (3, .ref O0), (4, .int (iI i))] → W p l e room_1 s m #[Value.ref b] below meth c H locs (cells + 1) (slots + 6) Q (F0 m 1733 ls [])) :
  W p l e room_1 s m #[Value.ref b] below meth c H locs cells slots Q (F0 m 320 ls []) := by
  obtain ⟨hx, hb, hml, hts, hown, hXs, hbl, hbA, hA, hK, hNW, hXP, hNC⟩ := hF
  have i_1 := sx_b xs (i + 1)
  rw [List.append_assoc] at hP hD
  refine lv_aload_n hx hb dL_law_320 rfl (lv_at hl 1 rfl) ?_
  refine lv_aload_n hx hb dL_law_321 rfl (lv_at hl 0 rfl) ?_
  refine lv_iload hx hb dL_law_322 (lv_at hl 4 rfl) ?_
  refine li_const hx hb dL_law_324 ?_
  refine li_add hx hb dL_law_325 ?_
  refine li_sld hx hb hXs hbl hbA hS (by omega) (by omega) (ib_i (by omega) (by omega)) dL_law_326 ?_
  refine lv_aload_n hx hb dL_law_327 rfl (lv_at hl 3 rfl) ?_
  refine cs_p (As := [.ref S0, .int (iI (sx xs (i + 1))), .ref O0]) (rest := []) (hh := [(0, 9, 12, 18), (0, 9, 15, 20)]) ⟨hx, hb, hml, hown, hts⟩ hX (vx_cwSW 3 hts gL_law_L_rain rfl rfl rfl (by decide +kernel) ⟨Nat.le_of_ble_eq_true rfl, Nat.le_of_ble_eq_true rfl⟩) hK hNW hXP hNC hP hD hS hA rfl hl.1 rfl (Nat.le_of_ble_eq_true rfl) dL_law_328 hf (fun H locs hP hD hS => ?_)
  rw [← List.append_assoc] at hP hD
  have hP := wp_perm (wq_c _ _) hP
  have hD := wd_perm (wq_c _ _) hD
  refine lv_istore (lv' := [(5, .int (iI k)), (0, .ref b), (1, .ref S0), (2, .ref M0), (3, .ref O0), (4, .int (iI i))]) hx hb dL_law_331 hl (by decide) rfl (fun ls hl => ?_)
  refine lv_aload_n hx hb dL_law_333 rfl (lv_at hl 3 rfl) ?_
  refine lv_aload_n hx hb dL_law_334 rfl (lv_at hl 1 rfl) ?_
  refine lv_iload hx hb dL_law_335 (lv_at hl 5 rfl) ?_
  refine li_const hx hb dL_law_337 ?_
  refine li_add hx hb dL_law_338 ?_
  refine li_sld hx hb hXs hbl hbA hS (by omega) (by omega) (ib_i (by omega) (by omega)) dL_law_339 ?_
  refine cl_p (As := [.int (iI (sx xs (i + 1)))]) (rest := []) (ci := 6) (q0 := 0) ⟨hx, hb, hml, hown, hts⟩ hM (cwV 1 hts gL_law_X6_rain rfl rfl rfl (by decide +kernel) ⟨Nat.le_of_ble_eq_true rfl, Nat.le_of_ble_eq_true rfl⟩) hK hNW hP hD hS hA rfl rfl hm rfl hl.1 rfl (Nat.le_of_ble_eq_true rfl) dL_law_340 hf (fun H locs hP hD hS => ?_)
  refine lv_istore (lv' := [(6, .int (iI r)), (5, .int (iI k)), (0, .ref b), (1, .ref S0), (2, .ref M0), (3, .ref O0), (4, .int (iI i))]) hx hb dL_law_343 hl (by decide) rfl (fun ls hl => ?_)
  refine lv_aload_n hx hb dL_law_345 rfl (lv_at hl 4 rfl) ?_
  refine cl_p (As := []) (rest := []) (ci := 6) (q0 := 0) ⟨hx, hb, hml, hown, hts⟩ hT (cwV 0 hts gL_law_X6_thrown rfl rfl rfl (by decide +kernel) ⟨Nat.le_of_ble_eq_true rfl, Nat.le_of_ble_eq_true rfl⟩) hK hNW hP hD hS hA rfl rfl hm1 rfl hl.1 rfl (Nat.le_of_ble_eq_true rfl) dL_law_346 hf (fun H locs hP hD hS => ?_)
  have hP := wp_perm (wq_c _ _) hP
  have hD := wd_perm (wq_c _ _) hD
  refine lv_iload hx hb dL_law_349 (lv_at hl 1 rfl) ?_
  refine li_icmp_eq_s (tgt := 356) hx hb dL_law_351 (by decide) rfl ?_
  refine lv_iload hx hb dL_law_356 (lv_at hl 1 rfl) ?_
  refine li_if_ne (tgt := 373) hx hb dL_law_358 (by decide) hk (fun _ => ?_) (fun c_0 => ?_)
  · refine lv_goto (tgt := 1733) hx hb dL_law_373 (by decide) ?_
    exact K _ _ _ hP hD hS (lv_sub hl [2, 3, 4, 5, 6] rfl)
  · obtain ⟨q, f, hq, hf0⟩ := ho c_0
    refine lv_aload_n hx hb dL_law_361 rfl (lv_at hl 5 rfl) ?_
    refine li_const hx hb dL_law_362 ?_
    refine li_lald0 (q0 := q) (t0 := 2) (v := (iI r).toInt64) hx hb hK hP (wg_l (wg_l hq)) rfl hf0 dL_law_363 ?_
    refine lv_iload hx hb dL_law_364 (lv_at hl 0 rfl) ?_
    refine lv_i2l (v := (iI r).toInt64) hx hb dL_law_366 rfl ?_
    refine li_lceq hx hb rfl dL_law_367 ?_
    refine li_if_eq_t (tgt := 373) hx hb dL_law_368 (by decide) (by decide) (by decide) ?_
    refine lv_goto (tgt := 1733) hx hb dL_law_373 (by decide) ?_
    exact K _ _ _ hP hD hS (lv_sub hl [2, 3, 4, 5, 6] rfl)

set_option maxRecDepth 100000 in
set_option maxHeartbeats 1000000 in
theorem sh_headAt {p : Program} {l : Launch} {e : Env} {s : State} {m : MethodId} {below : List Frame} {meth : Method} {c : Code} {H : Heap} {locs : List Loc} {cells slots : Nat} {Q : State → Prop} {ls : Array Slot} {D : va_G} {A : Nat → Prop} {cI cZ cJ : ClassId} {b N : Nat} {xs : Nat → Int32} {i : Int} {S0 M0 O0 : Nat} {wc wc1 wR wM wM1 : va_W} {wM2 : va_W} {k r : Int} {fm fm1 : List Value} (hF : LFx p s m c b N xs D (ty3 cI cZ cJ) A) (hi : 3 ≤ i ∧ i + 3 < (N : Int)) (hN : N ≤ 2051) (hf : cells + 1 ≤ room_1.cells ∧ slots + 6 ≤ room_1.slots) (hk : ib k) (hX : CW l yL_headAt wsL_headAt 26 [.ref S0, .int (iI (sx xs (i + 1))), .ref O0] D (ty3 cI cZ cJ) wc k wc1) (hM : Di l yX6_headAt wsX6_headAt 25 [.ref M0, .int (iI (sx xs (i + 1)))] D (ty3 cI cZ cJ) wM r wM1) (hT : Di l yX6_thrown wsX6_thrown 1 [.ref M0] D (ty3 cI cZ cJ) wM1 k wM2) (hm : wM[0]? = some (M0, .inr (6, fm))) (hm1 : wM1[0]? = some (M0, .inr (6, fm1))) (ho : k = 0 → ∃ (q : Nat) (f : Nat → Int64), wc1[q]? = some (O0, .inl (cJ, 1, .inr (.inl f))) ∧ f 0 = (iI r).toInt64) (hP : va_P D vwCl ((wc ++ wR) ++ wM) H) (hD : va_D A ((wc ++ wR) ++ wM)) (hS : va_S A s.heap H locs) (hl : lv_has ls 9 [(0, .ref b), (1, .ref S0), (2, .ref M0), (3, .ref O0), (4, .int (iI i))])
  (K : ∀ (H : Heap) (locs : List Loc) (ls : Array Slot), va_P D vwCl ((wc1 ++ wR) ++ wM2) H → va_D A ((wc1 ++ wR) ++ wM2) → va_S A s.heap H locs → lv_has ls 9 [(0, .ref b), (1, .ref S0), (2, .ref M0), (3, .ref O0), (4, .int (iI i))] → W p l e room_1 s m #[Value.ref b] below meth c H locs (cells + 1) (slots + 6) Q (F0 m 1733 ls [])) :
  W p l e room_1 s m #[Value.ref b] below meth c H locs cells slots Q (F0 m 376 ls []) := by
  obtain ⟨hx, hb, hml, hts, hown, hXs, hbl, hbA, hA, hK, hNW, hXP, hNC⟩ := hF
  have i_1 := sx_b xs (i + 1)
  rw [List.append_assoc] at hP hD
  refine lv_aload_n hx hb dL_law_376 rfl (lv_at hl 1 rfl) ?_
  refine lv_aload_n hx hb dL_law_377 rfl (lv_at hl 0 rfl) ?_
  refine lv_iload hx hb dL_law_378 (lv_at hl 4 rfl) ?_
  refine li_const hx hb dL_law_380 ?_
  refine li_add hx hb dL_law_381 ?_
  refine li_sld hx hb hXs hbl hbA hS (by omega) (by omega) (ib_i (by omega) (by omega)) dL_law_382 ?_
  refine lv_aload_n hx hb dL_law_383 rfl (lv_at hl 3 rfl) ?_
  refine cs_p (As := [.ref S0, .int (iI (sx xs (i + 1))), .ref O0]) (rest := []) (hh := [(0, 9, 12, 13)]) ⟨hx, hb, hml, hown, hts⟩ hX (vx_cwSW 3 hts gL_law_L_headAt rfl rfl rfl (by decide +kernel) ⟨Nat.le_of_ble_eq_true rfl, Nat.le_of_ble_eq_true rfl⟩) hK hNW hXP hNC hP hD hS hA rfl hl.1 rfl (Nat.le_of_ble_eq_true rfl) dL_law_384 hf (fun H locs hP hD hS => ?_)
  rw [← List.append_assoc] at hP hD
  have hP := wp_perm (wq_c _ _) hP
  have hD := wd_perm (wq_c _ _) hD
  refine lv_istore (lv' := [(5, .int (iI k)), (0, .ref b), (1, .ref S0), (2, .ref M0), (3, .ref O0), (4, .int (iI i))]) hx hb dL_law_387 hl (by decide) rfl (fun ls hl => ?_)
  refine lv_aload_n hx hb dL_law_389 rfl (lv_at hl 3 rfl) ?_
  refine lv_aload_n hx hb dL_law_390 rfl (lv_at hl 1 rfl) ?_
  refine lv_iload hx hb dL_law_391 (lv_at hl 5 rfl) ?_
  refine li_const hx hb dL_law_393 ?_
  refine li_add hx hb dL_law_394 ?_
  refine li_sld hx hb hXs hbl hbA hS (by omega) (by omega) (ib_i (by omega) (by omega)) dL_law_395 ?_
  refine cl_p (As := [.int (iI (sx xs (i + 1)))]) (rest := []) (ci := 6) (q0 := 0) ⟨hx, hb, hml, hown, hts⟩ hM (cwV 1 hts gL_law_X6_headAt rfl rfl rfl (by decide +kernel) ⟨Nat.le_of_ble_eq_true rfl, Nat.le_of_ble_eq_true rfl⟩) hK hNW hP hD hS hA rfl rfl hm rfl hl.1 rfl (Nat.le_of_ble_eq_true rfl) dL_law_396 hf (fun H locs hP hD hS => ?_)
  refine lv_istore (lv' := [(6, .int (iI r)), (5, .int (iI k)), (0, .ref b), (1, .ref S0), (2, .ref M0), (3, .ref O0), (4, .int (iI i))]) hx hb dL_law_399 hl (by decide) rfl (fun ls hl => ?_)
  refine lv_aload_n hx hb dL_law_401 rfl (lv_at hl 4 rfl) ?_
  refine cl_p (As := []) (rest := []) (ci := 6) (q0 := 0) ⟨hx, hb, hml, hown, hts⟩ hT (cwV 0 hts gL_law_X6_thrown rfl rfl rfl (by decide +kernel) ⟨Nat.le_of_ble_eq_true rfl, Nat.le_of_ble_eq_true rfl⟩) hK hNW hP hD hS hA rfl rfl hm1 rfl hl.1 rfl (Nat.le_of_ble_eq_true rfl) dL_law_402 hf (fun H locs hP hD hS => ?_)
  have hP := wp_perm (wq_c _ _) hP
  have hD := wd_perm (wq_c _ _) hD
  refine lv_iload hx hb dL_law_405 (lv_at hl 1 rfl) ?_
  refine li_icmp_eq_s (tgt := 412) hx hb dL_law_407 (by decide) rfl ?_
  refine lv_iload hx hb dL_law_412 (lv_at hl 1 rfl) ?_
  refine li_if_ne (tgt := 429) hx hb dL_law_414 (by decide) hk (fun _ => ?_) (fun c_0 => ?_)
  · refine lv_goto (tgt := 1733) hx hb dL_law_429 (by decide) ?_
    exact K _ _ _ hP hD hS (lv_sub hl [2, 3, 4, 5, 6] rfl)
  · obtain ⟨q, f, hq, hf0⟩ := ho c_0
    refine lv_aload_n hx hb dL_law_417 rfl (lv_at hl 5 rfl) ?_
    refine li_const hx hb dL_law_418 ?_
    refine li_lald0 (q0 := q) (t0 := 2) (v := (iI r).toInt64) hx hb hK hP (wg_l (wg_l hq)) rfl hf0 dL_law_419 ?_
    refine lv_iload hx hb dL_law_420 (lv_at hl 0 rfl) ?_
    refine lv_i2l (v := (iI r).toInt64) hx hb dL_law_422 rfl ?_
    refine li_lceq hx hb rfl dL_law_423 ?_
    refine li_if_eq_t (tgt := 429) hx hb dL_law_424 (by decide) (by decide) (by decide) ?_
    refine lv_goto (tgt := 1733) hx hb dL_law_429 (by decide) ?_
    exact K _ _ _ hP hD hS (lv_sub hl [2, 3, 4, 5, 6] rfl)

set_option maxRecDepth 100000 in
set_option maxHeartbeats 1000000 in
theorem sh_isOpen {p : Program} {l : Launch} {e : Env} {s : State} {m : MethodId} {below : List Frame} {meth : Method} {c : Code} {H : Heap} {locs : List Loc} {cells slots : Nat} {Q : State → Prop} {ls : Array Slot} {D : va_G} {A : Nat → Prop} {cI cZ cJ : ClassId} {b N : Nat} {xs : Nat → Int32} {i : Int} {S0 M0 O0 : Nat} {wc wc1 wR wM wM1 : va_W} {wM2 : va_W} {k r : Int} {fm fm1 : List Value} (hF : LFx p s m c b N xs D (ty3 cI cZ cJ) A) (hi : 3 ≤ i ∧ i + 3 < (N : Int)) (hN : N ≤ 2051) (hf : cells + 1 ≤ room_1.cells ∧ slots + 6 ≤ room_1.slots) (hk : ib k) (hr : ib r) (hX : CW l yL_isOpen wsL_isOpen 26 [.ref S0, .int (iI (sx xs (i + 1))), .ref O0] D (ty3 cI cZ cJ) wc k wc1) (hM : Di l yX6_isOpen wsX6_isOpen 25 [.ref M0, .int (iI (sx xs (i + 1)))] D (ty3 cI cZ cJ) wM r wM1) (hT : Di l yX6_thrown wsX6_thrown 1 [.ref M0] D (ty3 cI cZ cJ) wM1 k wM2) (hm : wM[0]? = some (M0, .inr (6, fm))) (hm1 : wM1[0]? = some (M0, .inr (6, fm1))) (ho : k = 0 → ∃ (q : Nat) (f : Nat → Int64), wc1[q]? = some (O0, .inl (cJ, 1, .inr (.inl f))) ∧ f 0 = (iI (ub r)).toInt64) (hP : va_P D vwCl ((wc ++ wR) ++ wM) H) (hD : va_D A ((wc ++ wR) ++ wM)) (hS : va_S A s.heap H locs) (hl : lv_has ls 9 [(0, .ref b), (1, .ref S0), (2, .ref M0), (3, .ref O0), (4, .int (iI i))])
  (K : ∀ (H : Heap) (locs : List Loc) (ls : Array Slot), va_P D vwCl ((wc1 ++ wR) ++ wM2) H → va_D A ((wc1 ++ wR) ++ wM2) → va_S A s.heap H locs → lv_has ls 9 [(0, .ref b), (1, .ref S0), (2, .ref M0), (3, .ref O0), (4, .int (iI i))] → W p l e room_1 s m #[Value.ref b] below meth c H locs (cells + 1) (slots + 6) Q (F0 m 1733 ls [])) :
  W p l e room_1 s m #[Value.ref b] below meth c H locs cells slots Q (F0 m 432 ls []) := by
  obtain ⟨hx, hb, hml, hts, hown, hXs, hbl, hbA, hA, hK, hNW, hXP, hNC⟩ := hF
  have i_1 := sx_b xs (i + 1)
  rw [List.append_assoc] at hP hD
  refine lv_aload_n hx hb dL_law_432 rfl (lv_at hl 1 rfl) ?_
  refine lv_aload_n hx hb dL_law_433 rfl (lv_at hl 0 rfl) ?_
  refine lv_iload hx hb dL_law_434 (lv_at hl 4 rfl) ?_
  refine li_const hx hb dL_law_436 ?_
  refine li_add hx hb dL_law_437 ?_
  refine li_sld hx hb hXs hbl hbA hS (by omega) (by omega) (ib_i (by omega) (by omega)) dL_law_438 ?_
  refine lv_aload_n hx hb dL_law_439 rfl (lv_at hl 3 rfl) ?_
  refine cs_p (As := [.ref S0, .int (iI (sx xs (i + 1))), .ref O0]) (rest := []) (hh := [(0, 16, 19, 13)]) ⟨hx, hb, hml, hown, hts⟩ hX (vx_cwSW 3 hts gL_law_L_isOpen rfl rfl rfl (by decide +kernel) ⟨Nat.le_of_ble_eq_true rfl, Nat.le_of_ble_eq_true rfl⟩) hK hNW hXP hNC hP hD hS hA rfl hl.1 rfl (Nat.le_of_ble_eq_true rfl) dL_law_440 hf (fun H locs hP hD hS => ?_)
  rw [← List.append_assoc] at hP hD
  have hP := wp_perm (wq_c _ _) hP
  have hD := wd_perm (wq_c _ _) hD
  refine lv_istore (lv' := [(5, .int (iI k)), (0, .ref b), (1, .ref S0), (2, .ref M0), (3, .ref O0), (4, .int (iI i))]) hx hb dL_law_443 hl (by decide) rfl (fun ls hl => ?_)
  refine lv_aload_n hx hb dL_law_445 rfl (lv_at hl 3 rfl) ?_
  refine lv_aload_n hx hb dL_law_446 rfl (lv_at hl 1 rfl) ?_
  refine lv_iload hx hb dL_law_447 (lv_at hl 5 rfl) ?_
  refine li_const hx hb dL_law_449 ?_
  refine li_add hx hb dL_law_450 ?_
  refine li_sld hx hb hXs hbl hbA hS (by omega) (by omega) (ib_i (by omega) (by omega)) dL_law_451 ?_
  refine cl_p (As := [.int (iI (sx xs (i + 1)))]) (rest := []) (ci := 6) (q0 := 0) ⟨hx, hb, hml, hown, hts⟩ hM (cwV 1 hts gL_law_X6_isOpen rfl rfl rfl (by decide +kernel) ⟨Nat.le_of_ble_eq_true rfl, Nat.le_of_ble_eq_true rfl⟩) hK hNW hP hD hS hA rfl rfl hm rfl hl.1 rfl (Nat.le_of_ble_eq_true rfl) dL_law_452 hf (fun H locs hP hD hS => ?_)
  refine lv_istore (lv' := [(6, .int (iI r)), (5, .int (iI k)), (0, .ref b), (1, .ref S0), (2, .ref M0), (3, .ref O0), (4, .int (iI i))]) hx hb dL_law_455 hl (by decide) rfl (fun ls hl => ?_)
  refine lv_aload_n hx hb dL_law_457 rfl (lv_at hl 4 rfl) ?_
  refine cl_p (As := []) (rest := []) (ci := 6) (q0 := 0) ⟨hx, hb, hml, hown, hts⟩ hT (cwV 0 hts gL_law_X6_thrown rfl rfl rfl (by decide +kernel) ⟨Nat.le_of_ble_eq_true rfl, Nat.le_of_ble_eq_true rfl⟩) hK hNW hP hD hS hA rfl rfl hm1 rfl hl.1 rfl (Nat.le_of_ble_eq_true rfl) dL_law_458 hf (fun H locs hP hD hS => ?_)
  have hP := wp_perm (wq_c _ _) hP
  have hD := wd_perm (wq_c _ _) hD
  refine lv_iload hx hb dL_law_461 (lv_at hl 1 rfl) ?_
  refine li_icmp_eq_s (tgt := 468) hx hb dL_law_463 (by decide) rfl ?_
  refine lv_iload hx hb dL_law_468 (lv_at hl 1 rfl) ?_
  refine li_if_ne (tgt := 492) hx hb dL_law_470 (by decide) hk (fun _ => ?_) (fun c_0 => ?_)
  · refine lv_goto (tgt := 1733) hx hb dL_law_492 (by decide) ?_
    exact K _ _ _ hP hD hS (lv_sub hl [2, 3, 4, 5, 6] rfl)
  · obtain ⟨q, f, hq, hf0⟩ := ho c_0
    refine lv_aload_n hx hb dL_law_473 rfl (lv_at hl 5 rfl) ?_
    refine li_const hx hb dL_law_474 ?_
    refine li_lald0 (q0 := q) (t0 := 2) (v := (iI (ub r)).toInt64) hx hb hK hP (wg_l (wg_l hq)) rfl hf0 dL_law_475 ?_
    refine lv_iload hx hb dL_law_476 (lv_at hl 0 rfl) ?_
    refine li_nzl hx hb hr dL_law_478 dL_law_481 dL_law_482 dL_law_485 ?_
    refine li_lceq hx hb rfl dL_law_486 ?_
    refine li_if_eq_t (tgt := 492) hx hb dL_law_487 (by decide) (by decide) (by decide) ?_
    refine lv_goto (tgt := 1733) hx hb dL_law_492 (by decide) ?_
    exact K _ _ _ hP hD hS (lv_sub hl [2, 3, 4, 5, 6] rfl)

set_option maxRecDepth 100000 in
set_option maxHeartbeats 1000000 in
theorem sh_openObstacle {p : Program} {l : Launch} {e : Env} {s : State} {m : MethodId} {below : List Frame} {meth : Method} {c : Code} {H : Heap} {locs : List Loc} {cells slots : Nat} {Q : State → Prop} {ls : Array Slot} {D : va_G} {A : Nat → Prop} {cI cZ cJ : ClassId} {b N : Nat} {xs : Nat → Int32} {i : Int} {S0 M0 O0 : Nat} {wc wc1 wR wM wM1 : va_W} {wM2 : va_W} {k r : Int} {fm fm1 : List Value} (hF : LFx p s m c b N xs D (ty3 cI cZ cJ) A) (hi : 3 ≤ i ∧ i + 3 < (N : Int)) (hN : N ≤ 2051) (hf : cells + 1 ≤ room_1.cells ∧ slots + 6 ≤ room_1.slots) (hk : ib k) (hX : CW l yL_openObstacle wsL_openObstacle 26 [.ref S0, .int (iI (sx xs (i + 1))), .ref O0] D (ty3 cI cZ cJ) wc k wc1) (hM : Di l yX6_openObstacle wsX6_openObstacle 25 [.ref M0, .int (iI (sx xs (i + 1)))] D (ty3 cI cZ cJ) wM r wM1) (hT : Di l yX6_thrown wsX6_thrown 1 [.ref M0] D (ty3 cI cZ cJ) wM1 k wM2) (hm : wM[0]? = some (M0, .inr (6, fm))) (hm1 : wM1[0]? = some (M0, .inr (6, fm1))) (ho : k = 0 → ∃ (q : Nat) (f : Nat → Int64), wc1[q]? = some (O0, .inl (cJ, 1, .inr (.inl f))) ∧ f 0 = (iI r).toInt64) (hP : va_P D vwCl ((wc ++ wR) ++ wM) H) (hD : va_D A ((wc ++ wR) ++ wM)) (hS : va_S A s.heap H locs) (hl : lv_has ls 9 [(0, .ref b), (1, .ref S0), (2, .ref M0), (3, .ref O0), (4, .int (iI i))])
  (K : ∀ (H : Heap) (locs : List Loc) (ls : Array Slot), va_P D vwCl ((wc1 ++ wR) ++ wM2) H → va_D A ((wc1 ++ wR) ++ wM2) → va_S A s.heap H locs → lv_has ls 9 [(0, .ref b), (1, .ref S0), (2, .ref M0), (3, .ref O0), (4, .int (iI i))] → W p l e room_1 s m #[Value.ref b] below meth c H locs (cells + 1) (slots + 6) Q (F0 m 1733 ls [])) :
  W p l e room_1 s m #[Value.ref b] below meth c H locs cells slots Q (F0 m 495 ls []) := by
  obtain ⟨hx, hb, hml, hts, hown, hXs, hbl, hbA, hA, hK, hNW, hXP, hNC⟩ := hF
  have i_1 := sx_b xs (i + 1)
  rw [List.append_assoc] at hP hD
  refine lv_aload_n hx hb dL_law_495 rfl (lv_at hl 1 rfl) ?_
  refine lv_aload_n hx hb dL_law_496 rfl (lv_at hl 0 rfl) ?_
  refine lv_iload hx hb dL_law_497 (lv_at hl 4 rfl) ?_
  refine li_const hx hb dL_law_499 ?_
  refine li_add hx hb dL_law_500 ?_
  refine li_sld hx hb hXs hbl hbA hS (by omega) (by omega) (ib_i (by omega) (by omega)) dL_law_501 ?_
  refine lv_aload_n hx hb dL_law_502 rfl (lv_at hl 3 rfl) ?_
  refine cs_p (As := [.ref S0, .int (iI (sx xs (i + 1))), .ref O0]) (rest := []) (hh := [(0, 9, 12, 13)]) ⟨hx, hb, hml, hown, hts⟩ hX (vx_cwSW 3 hts gL_law_L_openObstacle rfl rfl rfl (by decide +kernel) ⟨Nat.le_of_ble_eq_true rfl, Nat.le_of_ble_eq_true rfl⟩) hK hNW hXP hNC hP hD hS hA rfl hl.1 rfl (Nat.le_of_ble_eq_true rfl) dL_law_503 hf (fun H locs hP hD hS => ?_)
  rw [← List.append_assoc] at hP hD
  have hP := wp_perm (wq_c _ _) hP
  have hD := wd_perm (wq_c _ _) hD
  refine lv_istore (lv' := [(5, .int (iI k)), (0, .ref b), (1, .ref S0), (2, .ref M0), (3, .ref O0), (4, .int (iI i))]) hx hb dL_law_506 hl (by decide) rfl (fun ls hl => ?_)
  refine lv_aload_n hx hb dL_law_508 rfl (lv_at hl 3 rfl) ?_
  refine lv_aload_n hx hb dL_law_509 rfl (lv_at hl 1 rfl) ?_
  refine lv_iload hx hb dL_law_510 (lv_at hl 5 rfl) ?_
  refine li_const hx hb dL_law_512 ?_
  refine li_add hx hb dL_law_513 ?_
  refine li_sld hx hb hXs hbl hbA hS (by omega) (by omega) (ib_i (by omega) (by omega)) dL_law_514 ?_
  refine cl_p (As := [.int (iI (sx xs (i + 1)))]) (rest := []) (ci := 6) (q0 := 0) ⟨hx, hb, hml, hown, hts⟩ hM (cwV 1 hts gL_law_X6_openObstacle rfl rfl rfl (by decide +kernel) ⟨Nat.le_of_ble_eq_true rfl, Nat.le_of_ble_eq_true rfl⟩) hK hNW hP hD hS hA rfl rfl hm rfl hl.1 rfl (Nat.le_of_ble_eq_true rfl) dL_law_515 hf (fun H locs hP hD hS => ?_)
  refine lv_istore (lv' := [(6, .int (iI r)), (5, .int (iI k)), (0, .ref b), (1, .ref S0), (2, .ref M0), (3, .ref O0), (4, .int (iI i))]) hx hb dL_law_518 hl (by decide) rfl (fun ls hl => ?_)
  refine lv_aload_n hx hb dL_law_520 rfl (lv_at hl 4 rfl) ?_
  refine cl_p (As := []) (rest := []) (ci := 6) (q0 := 0) ⟨hx, hb, hml, hown, hts⟩ hT (cwV 0 hts gL_law_X6_thrown rfl rfl rfl (by decide +kernel) ⟨Nat.le_of_ble_eq_true rfl, Nat.le_of_ble_eq_true rfl⟩) hK hNW hP hD hS hA rfl rfl hm1 rfl hl.1 rfl (Nat.le_of_ble_eq_true rfl) dL_law_521 hf (fun H locs hP hD hS => ?_)
  have hP := wp_perm (wq_c _ _) hP
  have hD := wd_perm (wq_c _ _) hD
  refine lv_iload hx hb dL_law_524 (lv_at hl 1 rfl) ?_
  refine li_icmp_eq_s (tgt := 531) hx hb dL_law_526 (by decide) rfl ?_
  refine lv_iload hx hb dL_law_531 (lv_at hl 1 rfl) ?_
  refine li_if_ne (tgt := 548) hx hb dL_law_533 (by decide) hk (fun _ => ?_) (fun c_0 => ?_)
  · refine lv_goto (tgt := 1733) hx hb dL_law_548 (by decide) ?_
    exact K _ _ _ hP hD hS (lv_sub hl [2, 3, 4, 5, 6] rfl)
  · obtain ⟨q, f, hq, hf0⟩ := ho c_0
    refine lv_aload_n hx hb dL_law_536 rfl (lv_at hl 5 rfl) ?_
    refine li_const hx hb dL_law_537 ?_
    refine li_lald0 (q0 := q) (t0 := 2) (v := (iI r).toInt64) hx hb hK hP (wg_l (wg_l hq)) rfl hf0 dL_law_538 ?_
    refine lv_iload hx hb dL_law_539 (lv_at hl 0 rfl) ?_
    refine lv_i2l (v := (iI r).toInt64) hx hb dL_law_541 rfl ?_
    refine li_lceq hx hb rfl dL_law_542 ?_
    refine li_if_eq_t (tgt := 548) hx hb dL_law_543 (by decide) (by decide) (by decide) ?_
    refine lv_goto (tgt := 1733) hx hb dL_law_548 (by decide) ?_
    exact K _ _ _ hP hD hS (lv_sub hl [2, 3, 4, 5, 6] rfl)

set_option maxRecDepth 100000 in
set_option maxHeartbeats 1000000 in
theorem sh_open {p : Program} {l : Launch} {e : Env} {s : State} {m : MethodId} {below : List Frame} {meth : Method} {c : Code} {H : Heap} {locs : List Loc} {cells slots : Nat} {Q : State → Prop} {ls : Array Slot} {D : va_G} {A : Nat → Prop} {cI cZ cJ : ClassId} {b N : Nat} {xs : Nat → Int32} {i : Int} {S0 M0 O0 : Nat} {wc wc1 wR wM wM1 : va_W} {wM2 : va_W} {k r : Int} {fm fm1 : List Value} (hF : LFx p s m c b N xs D (ty3 cI cZ cJ) A) (hi : 3 ≤ i ∧ i + 3 < (N : Int)) (hN : N ≤ 2051) (hf : cells + 1 ≤ room_1.cells ∧ slots + 6 ≤ room_1.slots) (hk : ib k) (hX : CW l yL_open wsL_open 26 [.ref S0, .int (iI (sx xs (i + 1))), .ref O0] D (ty3 cI cZ cJ) wc k wc1) (hM : Di l yX6_open wsX6_open 25 [.ref M0, .int (iI (sx xs (i + 1)))] D (ty3 cI cZ cJ) wM r wM1) (hT : Di l yX6_thrown wsX6_thrown 1 [.ref M0] D (ty3 cI cZ cJ) wM1 k wM2) (hm : wM[0]? = some (M0, .inr (6, fm))) (hm1 : wM1[0]? = some (M0, .inr (6, fm1))) (ho : k = 0 → ∃ (q : Nat) (f : Nat → Int64), wc1[q]? = some (O0, .inl (cJ, 1, .inr (.inl f))) ∧ f 0 = (iI r).toInt64) (hP : va_P D vwCl ((wc ++ wR) ++ wM) H) (hD : va_D A ((wc ++ wR) ++ wM)) (hS : va_S A s.heap H locs) (hl : lv_has ls 9 [(0, .ref b), (1, .ref S0), (2, .ref M0), (3, .ref O0), (4, .int (iI i))])
  (K : ∀ (H : Heap) (locs : List Loc) (ls : Array Slot), va_P D vwCl ((wc1 ++ wR) ++ wM2) H → va_D A ((wc1 ++ wR) ++ wM2) → va_S A s.heap H locs → lv_has ls 9 [(0, .ref b), (1, .ref S0), (2, .ref M0), (3, .ref O0), (4, .int (iI i))] → W p l e room_1 s m #[Value.ref b] below meth c H locs (cells + 1) (slots + 6) Q (F0 m 1733 ls [])) :
  W p l e room_1 s m #[Value.ref b] below meth c H locs cells slots Q (F0 m 551 ls []) := by
  obtain ⟨hx, hb, hml, hts, hown, hXs, hbl, hbA, hA, hK, hNW, hXP, hNC⟩ := hF
  have i_1 := sx_b xs (i + 1)
  rw [List.append_assoc] at hP hD
  refine lv_aload_n hx hb dL_law_551 rfl (lv_at hl 1 rfl) ?_
  refine lv_aload_n hx hb dL_law_552 rfl (lv_at hl 0 rfl) ?_
  refine lv_iload hx hb dL_law_553 (lv_at hl 4 rfl) ?_
  refine li_const hx hb dL_law_555 ?_
  refine li_add hx hb dL_law_556 ?_
  refine li_sld hx hb hXs hbl hbA hS (by omega) (by omega) (ib_i (by omega) (by omega)) dL_law_557 ?_
  refine lv_aload_n hx hb dL_law_558 rfl (lv_at hl 3 rfl) ?_
  refine cs_p (As := [.ref S0, .int (iI (sx xs (i + 1))), .ref O0]) (rest := []) (hh := [(0, 9, 12, 13), (0, 9, 15, 20)]) ⟨hx, hb, hml, hown, hts⟩ hX (vx_cwSW 3 hts gL_law_L_open rfl rfl rfl (by decide +kernel) ⟨Nat.le_of_ble_eq_true rfl, Nat.le_of_ble_eq_true rfl⟩) hK hNW hXP hNC hP hD hS hA rfl hl.1 rfl (Nat.le_of_ble_eq_true rfl) dL_law_559 hf (fun H locs hP hD hS => ?_)
  rw [← List.append_assoc] at hP hD
  have hP := wp_perm (wq_c _ _) hP
  have hD := wd_perm (wq_c _ _) hD
  refine lv_istore (lv' := [(5, .int (iI k)), (0, .ref b), (1, .ref S0), (2, .ref M0), (3, .ref O0), (4, .int (iI i))]) hx hb dL_law_562 hl (by decide) rfl (fun ls hl => ?_)
  refine lv_aload_n hx hb dL_law_564 rfl (lv_at hl 3 rfl) ?_
  refine lv_aload_n hx hb dL_law_565 rfl (lv_at hl 1 rfl) ?_
  refine lv_iload hx hb dL_law_566 (lv_at hl 5 rfl) ?_
  refine li_const hx hb dL_law_568 ?_
  refine li_add hx hb dL_law_569 ?_
  refine li_sld hx hb hXs hbl hbA hS (by omega) (by omega) (ib_i (by omega) (by omega)) dL_law_570 ?_
  refine cl_p (As := [.int (iI (sx xs (i + 1)))]) (rest := []) (ci := 6) (q0 := 0) ⟨hx, hb, hml, hown, hts⟩ hM (cwV 1 hts gL_law_X6_open rfl rfl rfl (by decide +kernel) ⟨Nat.le_of_ble_eq_true rfl, Nat.le_of_ble_eq_true rfl⟩) hK hNW hP hD hS hA rfl rfl hm rfl hl.1 rfl (Nat.le_of_ble_eq_true rfl) dL_law_571 hf (fun H locs hP hD hS => ?_)
  refine lv_istore (lv' := [(6, .int (iI r)), (5, .int (iI k)), (0, .ref b), (1, .ref S0), (2, .ref M0), (3, .ref O0), (4, .int (iI i))]) hx hb dL_law_574 hl (by decide) rfl (fun ls hl => ?_)
  refine lv_aload_n hx hb dL_law_576 rfl (lv_at hl 4 rfl) ?_
  refine cl_p (As := []) (rest := []) (ci := 6) (q0 := 0) ⟨hx, hb, hml, hown, hts⟩ hT (cwV 0 hts gL_law_X6_thrown rfl rfl rfl (by decide +kernel) ⟨Nat.le_of_ble_eq_true rfl, Nat.le_of_ble_eq_true rfl⟩) hK hNW hP hD hS hA rfl rfl hm1 rfl hl.1 rfl (Nat.le_of_ble_eq_true rfl) dL_law_577 hf (fun H locs hP hD hS => ?_)
  have hP := wp_perm (wq_c _ _) hP
  have hD := wd_perm (wq_c _ _) hD
  refine lv_iload hx hb dL_law_580 (lv_at hl 1 rfl) ?_
  refine li_icmp_eq_s (tgt := 587) hx hb dL_law_582 (by decide) rfl ?_
  refine lv_iload hx hb dL_law_587 (lv_at hl 1 rfl) ?_
  refine li_if_ne (tgt := 604) hx hb dL_law_589 (by decide) hk (fun _ => ?_) (fun c_0 => ?_)
  · refine lv_goto (tgt := 1733) hx hb dL_law_604 (by decide) ?_
    exact K _ _ _ hP hD hS (lv_sub hl [2, 3, 4, 5, 6] rfl)
  · obtain ⟨q, f, hq, hf0⟩ := ho c_0
    refine lv_aload_n hx hb dL_law_592 rfl (lv_at hl 5 rfl) ?_
    refine li_const hx hb dL_law_593 ?_
    refine li_lald0 (q0 := q) (t0 := 2) (v := (iI r).toInt64) hx hb hK hP (wg_l (wg_l hq)) rfl hf0 dL_law_594 ?_
    refine lv_iload hx hb dL_law_595 (lv_at hl 0 rfl) ?_
    refine lv_i2l (v := (iI r).toInt64) hx hb dL_law_597 rfl ?_
    refine li_lceq hx hb rfl dL_law_598 ?_
    refine li_if_eq_t (tgt := 604) hx hb dL_law_599 (by decide) (by decide) (by decide) ?_
    refine lv_goto (tgt := 1733) hx hb dL_law_604 (by decide) ?_
    exact K _ _ _ hP hD hS (lv_sub hl [2, 3, 4, 5, 6] rfl)

set_option maxRecDepth 100000 in
set_option maxHeartbeats 1000000 in
theorem sh_shut {p : Program} {l : Launch} {e : Env} {s : State} {m : MethodId} {below : List Frame} {meth : Method} {c : Code} {H : Heap} {locs : List Loc} {cells slots : Nat} {Q : State → Prop} {ls : Array Slot} {D : va_G} {A : Nat → Prop} {cI cZ cJ : ClassId} {b N : Nat} {xs : Nat → Int32} {i : Int} {S0 M0 O0 : Nat} {wc wc1 wR wM wM1 : va_W} {wM2 : va_W} {k r : Int} {fm fm1 : List Value} (hF : LFx p s m c b N xs D (ty3 cI cZ cJ) A) (hi : 3 ≤ i ∧ i + 3 < (N : Int)) (hN : N ≤ 2051) (hf : cells + 1 ≤ room_1.cells ∧ slots + 6 ≤ room_1.slots) (hk : ib k) (hr : ib r) (hX : CW l yL_shut wsL_shut 26 [.ref S0, .int (iI (sx xs (i + 1))), .ref O0] D (ty3 cI cZ cJ) wc k wc1) (hM : Di l yX6_shut wsX6_shut 25 [.ref M0, .int (iI (sx xs (i + 1)))] D (ty3 cI cZ cJ) wM r wM1) (hT : Di l yX6_thrown wsX6_thrown 1 [.ref M0] D (ty3 cI cZ cJ) wM1 k wM2) (hm : wM[0]? = some (M0, .inr (6, fm))) (hm1 : wM1[0]? = some (M0, .inr (6, fm1))) (ho : k = 0 → ∃ (q : Nat) (f : Nat → Int64), wc1[q]? = some (O0, .inl (cJ, 1, .inr (.inl f))) ∧ f 0 = (iI (ub r)).toInt64) (hP : va_P D vwCl ((wc ++ wR) ++ wM) H) (hD : va_D A ((wc ++ wR) ++ wM)) (hS : va_S A s.heap H locs) (hl : lv_has ls 9 [(0, .ref b), (1, .ref S0), (2, .ref M0), (3, .ref O0), (4, .int (iI i))])
  (K : ∀ (H : Heap) (locs : List Loc) (ls : Array Slot), va_P D vwCl ((wc1 ++ wR) ++ wM2) H → va_D A ((wc1 ++ wR) ++ wM2) → va_S A s.heap H locs → lv_has ls 9 [(0, .ref b), (1, .ref S0), (2, .ref M0), (3, .ref O0), (4, .int (iI i))] → W p l e room_1 s m #[Value.ref b] below meth c H locs (cells + 1) (slots + 6) Q (F0 m 1733 ls [])) :
  W p l e room_1 s m #[Value.ref b] below meth c H locs cells slots Q (F0 m 607 ls []) := by
  obtain ⟨hx, hb, hml, hts, hown, hXs, hbl, hbA, hA, hK, hNW, hXP, hNC⟩ := hF
  have i_1 := sx_b xs (i + 1)
  rw [List.append_assoc] at hP hD
  refine lv_aload_n hx hb dL_law_607 rfl (lv_at hl 1 rfl) ?_
  refine lv_aload_n hx hb dL_law_608 rfl (lv_at hl 0 rfl) ?_
  refine lv_iload hx hb dL_law_609 (lv_at hl 4 rfl) ?_
  refine li_const hx hb dL_law_611 ?_
  refine li_add hx hb dL_law_612 ?_
  refine li_sld hx hb hXs hbl hbA hS (by omega) (by omega) (ib_i (by omega) (by omega)) dL_law_613 ?_
  refine lv_aload_n hx hb dL_law_614 rfl (lv_at hl 3 rfl) ?_
  refine cs_p (As := [.ref S0, .int (iI (sx xs (i + 1))), .ref O0]) (rest := []) (hh := [(0, 16, 19, 13)]) ⟨hx, hb, hml, hown, hts⟩ hX (vx_cwSW 3 hts gL_law_L_shut rfl rfl rfl (by decide +kernel) ⟨Nat.le_of_ble_eq_true rfl, Nat.le_of_ble_eq_true rfl⟩) hK hNW hXP hNC hP hD hS hA rfl hl.1 rfl (Nat.le_of_ble_eq_true rfl) dL_law_615 hf (fun H locs hP hD hS => ?_)
  rw [← List.append_assoc] at hP hD
  have hP := wp_perm (wq_c _ _) hP
  have hD := wd_perm (wq_c _ _) hD
  refine lv_istore (lv' := [(5, .int (iI k)), (0, .ref b), (1, .ref S0), (2, .ref M0), (3, .ref O0), (4, .int (iI i))]) hx hb dL_law_618 hl (by decide) rfl (fun ls hl => ?_)
  refine lv_aload_n hx hb dL_law_620 rfl (lv_at hl 3 rfl) ?_
  refine lv_aload_n hx hb dL_law_621 rfl (lv_at hl 1 rfl) ?_
  refine lv_iload hx hb dL_law_622 (lv_at hl 5 rfl) ?_
  refine li_const hx hb dL_law_624 ?_
  refine li_add hx hb dL_law_625 ?_
  refine li_sld hx hb hXs hbl hbA hS (by omega) (by omega) (ib_i (by omega) (by omega)) dL_law_626 ?_
  refine cl_p (As := [.int (iI (sx xs (i + 1)))]) (rest := []) (ci := 6) (q0 := 0) ⟨hx, hb, hml, hown, hts⟩ hM (cwV 1 hts gL_law_X6_shut rfl rfl rfl (by decide +kernel) ⟨Nat.le_of_ble_eq_true rfl, Nat.le_of_ble_eq_true rfl⟩) hK hNW hP hD hS hA rfl rfl hm rfl hl.1 rfl (Nat.le_of_ble_eq_true rfl) dL_law_627 hf (fun H locs hP hD hS => ?_)
  refine lv_istore (lv' := [(6, .int (iI r)), (5, .int (iI k)), (0, .ref b), (1, .ref S0), (2, .ref M0), (3, .ref O0), (4, .int (iI i))]) hx hb dL_law_630 hl (by decide) rfl (fun ls hl => ?_)
  refine lv_aload_n hx hb dL_law_632 rfl (lv_at hl 4 rfl) ?_
  refine cl_p (As := []) (rest := []) (ci := 6) (q0 := 0) ⟨hx, hb, hml, hown, hts⟩ hT (cwV 0 hts gL_law_X6_thrown rfl rfl rfl (by decide +kernel) ⟨Nat.le_of_ble_eq_true rfl, Nat.le_of_ble_eq_true rfl⟩) hK hNW hP hD hS hA rfl rfl hm1 rfl hl.1 rfl (Nat.le_of_ble_eq_true rfl) dL_law_633 hf (fun H locs hP hD hS => ?_)
  have hP := wp_perm (wq_c _ _) hP
  have hD := wd_perm (wq_c _ _) hD
  refine lv_iload hx hb dL_law_636 (lv_at hl 1 rfl) ?_
  refine li_icmp_eq_s (tgt := 643) hx hb dL_law_638 (by decide) rfl ?_
  refine lv_iload hx hb dL_law_643 (lv_at hl 1 rfl) ?_
  refine li_if_ne (tgt := 667) hx hb dL_law_645 (by decide) hk (fun _ => ?_) (fun c_0 => ?_)
  · refine lv_goto (tgt := 1733) hx hb dL_law_667 (by decide) ?_
    exact K _ _ _ hP hD hS (lv_sub hl [2, 3, 4, 5, 6] rfl)
  · obtain ⟨q, f, hq, hf0⟩ := ho c_0
    refine lv_aload_n hx hb dL_law_648 rfl (lv_at hl 5 rfl) ?_
    refine li_const hx hb dL_law_649 ?_
    refine li_lald0 (q0 := q) (t0 := 2) (v := (iI (ub r)).toInt64) hx hb hK hP (wg_l (wg_l hq)) rfl hf0 dL_law_650 ?_
    refine lv_iload hx hb dL_law_651 (lv_at hl 0 rfl) ?_
    refine li_nzl hx hb hr dL_law_653 dL_law_656 dL_law_657 dL_law_660 ?_
    refine li_lceq hx hb rfl dL_law_661 ?_
    refine li_if_eq_t (tgt := 667) hx hb dL_law_662 (by decide) (by decide) (by decide) ?_
    refine lv_goto (tgt := 1733) hx hb dL_law_667 (by decide) ?_
    exact K _ _ _ hP hD hS (lv_sub hl [2, 3, 4, 5, 6] rfl)

set_option maxRecDepth 100000 in
set_option maxHeartbeats 1000000 in
theorem sh_turnsOf {p : Program} {l : Launch} {e : Env} {s : State} {m : MethodId} {below : List Frame} {meth : Method} {c : Code} {H : Heap} {locs : List Loc} {cells slots : Nat} {Q : State → Prop} {ls : Array Slot} {D : va_G} {A : Nat → Prop} {cI cZ cJ : ClassId} {b N : Nat} {xs : Nat → Int32} {i : Int} {S0 M0 O0 : Nat} {wc wc1 wR wM wM1 : va_W} {wM2 : va_W} {k r : Int} {fm fm1 : List Value} (hF : LFx p s m c b N xs D (ty3 cI cZ cJ) A) (hi : 3 ≤ i ∧ i + 3 < (N : Int)) (hN : N ≤ 2051) (hf : cells + 1 ≤ room_1.cells ∧ slots + 6 ≤ room_1.slots) (hk : ib k) (hX : CW l yL_turnsOf wsL_turnsOf 26 [.ref S0, .int (iI (sx xs (i + 1))), .ref O0] D (ty3 cI cZ cJ) wc k wc1) (hM : Di l yX6_turnsOf wsX6_turnsOf 25 [.ref M0, .int (iI (sx xs (i + 1)))] D (ty3 cI cZ cJ) wM r wM1) (hT : Di l yX6_thrown wsX6_thrown 1 [.ref M0] D (ty3 cI cZ cJ) wM1 k wM2) (hm : wM[0]? = some (M0, .inr (6, fm))) (hm1 : wM1[0]? = some (M0, .inr (6, fm1))) (ho : k = 0 → ∃ (q : Nat) (f : Nat → Int64), wc1[q]? = some (O0, .inl (cJ, 1, .inr (.inl f))) ∧ f 0 = (iI r).toInt64) (hP : va_P D vwCl ((wc ++ wR) ++ wM) H) (hD : va_D A ((wc ++ wR) ++ wM)) (hS : va_S A s.heap H locs) (hl : lv_has ls 9 [(0, .ref b), (1, .ref S0), (2, .ref M0), (3, .ref O0), (4, .int (iI i))])
  (K : ∀ (H : Heap) (locs : List Loc) (ls : Array Slot), va_P D vwCl ((wc1 ++ wR) ++ wM2) H → va_D A ((wc1 ++ wR) ++ wM2) → va_S A s.heap H locs → lv_has ls 9 [(0, .ref b), (1, .ref S0), (2, .ref M0), (3, .ref O0), (4, .int (iI i))] → W p l e room_1 s m #[Value.ref b] below meth c H locs (cells + 1) (slots + 6) Q (F0 m 1733 ls [])) :
  W p l e room_1 s m #[Value.ref b] below meth c H locs cells slots Q (F0 m 670 ls []) := by
  obtain ⟨hx, hb, hml, hts, hown, hXs, hbl, hbA, hA, hK, hNW, hXP, hNC⟩ := hF
  have i_1 := sx_b xs (i + 1)
  rw [List.append_assoc] at hP hD
  refine lv_aload_n hx hb dL_law_670 rfl (lv_at hl 1 rfl) ?_
  refine lv_aload_n hx hb dL_law_671 rfl (lv_at hl 0 rfl) ?_
  refine lv_iload hx hb dL_law_672 (lv_at hl 4 rfl) ?_
  refine li_const hx hb dL_law_674 ?_
  refine li_add hx hb dL_law_675 ?_
  refine li_sld hx hb hXs hbl hbA hS (by omega) (by omega) (ib_i (by omega) (by omega)) dL_law_676 ?_
  refine lv_aload_n hx hb dL_law_677 rfl (lv_at hl 3 rfl) ?_
  refine cs_p (As := [.ref S0, .int (iI (sx xs (i + 1))), .ref O0]) (rest := []) (hh := [(0, 9, 12, 13)]) ⟨hx, hb, hml, hown, hts⟩ hX (vx_cwSW 3 hts gL_law_L_turnsOf rfl rfl rfl (by decide +kernel) ⟨Nat.le_of_ble_eq_true rfl, Nat.le_of_ble_eq_true rfl⟩) hK hNW hXP hNC hP hD hS hA rfl hl.1 rfl (Nat.le_of_ble_eq_true rfl) dL_law_678 hf (fun H locs hP hD hS => ?_)
  rw [← List.append_assoc] at hP hD
  have hP := wp_perm (wq_c _ _) hP
  have hD := wd_perm (wq_c _ _) hD
  refine lv_istore (lv' := [(5, .int (iI k)), (0, .ref b), (1, .ref S0), (2, .ref M0), (3, .ref O0), (4, .int (iI i))]) hx hb dL_law_681 hl (by decide) rfl (fun ls hl => ?_)
  refine lv_aload_n hx hb dL_law_683 rfl (lv_at hl 3 rfl) ?_
  refine lv_aload_n hx hb dL_law_684 rfl (lv_at hl 1 rfl) ?_
  refine lv_iload hx hb dL_law_685 (lv_at hl 5 rfl) ?_
  refine li_const hx hb dL_law_687 ?_
  refine li_add hx hb dL_law_688 ?_
  refine li_sld hx hb hXs hbl hbA hS (by omega) (by omega) (ib_i (by omega) (by omega)) dL_law_689 ?_
  refine cl_p (As := [.int (iI (sx xs (i + 1)))]) (rest := []) (ci := 6) (q0 := 0) ⟨hx, hb, hml, hown, hts⟩ hM (cwV 1 hts gL_law_X6_turnsOf rfl rfl rfl (by decide +kernel) ⟨Nat.le_of_ble_eq_true rfl, Nat.le_of_ble_eq_true rfl⟩) hK hNW hP hD hS hA rfl rfl hm rfl hl.1 rfl (Nat.le_of_ble_eq_true rfl) dL_law_690 hf (fun H locs hP hD hS => ?_)
  refine lv_istore (lv' := [(6, .int (iI r)), (5, .int (iI k)), (0, .ref b), (1, .ref S0), (2, .ref M0), (3, .ref O0), (4, .int (iI i))]) hx hb dL_law_693 hl (by decide) rfl (fun ls hl => ?_)
  refine lv_aload_n hx hb dL_law_695 rfl (lv_at hl 4 rfl) ?_
  refine cl_p (As := []) (rest := []) (ci := 6) (q0 := 0) ⟨hx, hb, hml, hown, hts⟩ hT (cwV 0 hts gL_law_X6_thrown rfl rfl rfl (by decide +kernel) ⟨Nat.le_of_ble_eq_true rfl, Nat.le_of_ble_eq_true rfl⟩) hK hNW hP hD hS hA rfl rfl hm1 rfl hl.1 rfl (Nat.le_of_ble_eq_true rfl) dL_law_696 hf (fun H locs hP hD hS => ?_)
  have hP := wp_perm (wq_c _ _) hP
  have hD := wd_perm (wq_c _ _) hD
  refine lv_iload hx hb dL_law_699 (lv_at hl 1 rfl) ?_
  refine li_icmp_eq_s (tgt := 706) hx hb dL_law_701 (by decide) rfl ?_
  refine lv_iload hx hb dL_law_706 (lv_at hl 1 rfl) ?_
  refine li_if_ne (tgt := 723) hx hb dL_law_708 (by decide) hk (fun _ => ?_) (fun c_0 => ?_)
  · refine lv_goto (tgt := 1733) hx hb dL_law_723 (by decide) ?_
    exact K _ _ _ hP hD hS (lv_sub hl [2, 3, 4, 5, 6] rfl)
  · obtain ⟨q, f, hq, hf0⟩ := ho c_0
    refine lv_aload_n hx hb dL_law_711 rfl (lv_at hl 5 rfl) ?_
    refine li_const hx hb dL_law_712 ?_
    refine li_lald0 (q0 := q) (t0 := 2) (v := (iI r).toInt64) hx hb hK hP (wg_l (wg_l hq)) rfl hf0 dL_law_713 ?_
    refine lv_iload hx hb dL_law_714 (lv_at hl 0 rfl) ?_
    refine lv_i2l (v := (iI r).toInt64) hx hb dL_law_716 rfl ?_
    refine li_lceq hx hb rfl dL_law_717 ?_
    refine li_if_eq_t (tgt := 723) hx hb dL_law_718 (by decide) (by decide) (by decide) ?_
    refine lv_goto (tgt := 1733) hx hb dL_law_723 (by decide) ?_
    exact K _ _ _ hP hD hS (lv_sub hl [2, 3, 4, 5, 6] rfl)

set_option maxRecDepth 100000 in
set_option maxHeartbeats 1000000 in
theorem sh_wind {p : Program} {l : Launch} {e : Env} {s : State} {m : MethodId} {below : List Frame} {meth : Method} {c : Code} {H : Heap} {locs : List Loc} {cells slots : Nat} {Q : State → Prop} {ls : Array Slot} {D : va_G} {A : Nat → Prop} {cI cZ cJ : ClassId} {b N : Nat} {xs : Nat → Int32} {i : Int} {S0 M0 O0 : Nat} {wc wc1 wR wM wM1 : va_W} {wM2 : va_W} {k r : Int} {fm fm1 : List Value} (hF : LFx p s m c b N xs D (ty3 cI cZ cJ) A) (hi : 3 ≤ i ∧ i + 3 < (N : Int)) (hN : N ≤ 2051) (hf : cells + 1 ≤ room_1.cells ∧ slots + 6 ≤ room_1.slots) (hk : ib k) (hX : CW l yL_wind wsL_wind 26 [.ref S0, .int (iI (sx xs (i + 1))), .int (iI (sx xs (i + 2))), .ref O0] D (ty3 cI cZ cJ) wc k wc1) (hM : Di l yX6_wind wsX6_wind 25 [.ref M0, .int (iI (sx xs (i + 1))), .int (iI (sx xs (i + 2)))] D (ty3 cI cZ cJ) wM r wM1) (hT : Di l yX6_thrown wsX6_thrown 1 [.ref M0] D (ty3 cI cZ cJ) wM1 k wM2) (hm : wM[0]? = some (M0, .inr (6, fm))) (hm1 : wM1[0]? = some (M0, .inr (6, fm1))) (ho : k = 0 → ∃ (q : Nat) (f : Nat → Int64), wc1[q]? = some (O0, .inl (cJ, 1, .inr (.inl f))) ∧ f 0 = (iI r).toInt64) (hP : va_P D vwCl ((wc ++ wR) ++ wM) H) (hD : va_D A ((wc ++ wR) ++ wM)) (hS : va_S A s.heap H locs) (hl : lv_has ls 9 [(0, .ref b), (1, .ref S0), (2, .ref M0), (3, .ref O0), (4, .int (iI i))])
  (K : ∀ (H : Heap) (locs : List Loc) (ls : Array Slot), va_P D vwCl ((wc1 ++ wR) ++ wM2) H → va_D A ((wc1 ++ wR) ++ wM2) → va_S A s.heap H locs → lv_has ls 9 [(0, .ref b), (1, .ref S0), (2, .ref M0), (3, .ref O0), (4, .int (iI i))] → W p l e room_1 s m #[Value.ref b] below meth c H locs (cells + 1) (slots + 6) Q (F0 m 1733 ls [])) :
  W p l e room_1 s m #[Value.ref b] below meth c H locs cells slots Q (F0 m 726 ls []) := by
  obtain ⟨hx, hb, hml, hts, hown, hXs, hbl, hbA, hA, hK, hNW, hXP, hNC⟩ := hF
  have i_1 := sx_b xs (i + 1)
  have i_2 := sx_b xs (i + 2)
  rw [List.append_assoc] at hP hD
  refine lv_aload_n hx hb dL_law_726 rfl (lv_at hl 1 rfl) ?_
  refine lv_aload_n hx hb dL_law_727 rfl (lv_at hl 0 rfl) ?_
  refine lv_iload hx hb dL_law_728 (lv_at hl 4 rfl) ?_
  refine li_const hx hb dL_law_730 ?_
  refine li_add hx hb dL_law_731 ?_
  refine li_sld hx hb hXs hbl hbA hS (by omega) (by omega) (ib_i (by omega) (by omega)) dL_law_732 ?_
  refine lv_aload_n hx hb dL_law_733 rfl (lv_at hl 0 rfl) ?_
  refine lv_iload hx hb dL_law_734 (lv_at hl 4 rfl) ?_
  refine li_const hx hb dL_law_736 ?_
  refine li_add hx hb dL_law_737 ?_
  refine li_sld hx hb hXs hbl hbA hS (by omega) (by omega) (ib_i (by omega) (by omega)) dL_law_738 ?_
  refine lv_aload_n hx hb dL_law_739 rfl (lv_at hl 3 rfl) ?_
  refine cs_p (As := [.ref S0, .int (iI (sx xs (i + 1))), .int (iI (sx xs (i + 2))), .ref O0]) (rest := []) (hh := [(0, 10, 13, 13), (0, 10, 17, 18), (0, 10, 21, 20)]) ⟨hx, hb, hml, hown, hts⟩ hX (vx_cwSW 4 hts gL_law_L_wind rfl rfl rfl (by decide +kernel) ⟨Nat.le_of_ble_eq_true rfl, Nat.le_of_ble_eq_true rfl⟩) hK hNW hXP hNC hP hD hS hA rfl hl.1 rfl (Nat.le_of_ble_eq_true rfl) dL_law_740 hf (fun H locs hP hD hS => ?_)
  rw [← List.append_assoc] at hP hD
  have hP := wp_perm (wq_c _ _) hP
  have hD := wd_perm (wq_c _ _) hD
  refine lv_istore (lv' := [(5, .int (iI k)), (0, .ref b), (1, .ref S0), (2, .ref M0), (3, .ref O0), (4, .int (iI i))]) hx hb dL_law_743 hl (by decide) rfl (fun ls hl => ?_)
  refine lv_aload_n hx hb dL_law_745 rfl (lv_at hl 3 rfl) ?_
  refine lv_aload_n hx hb dL_law_746 rfl (lv_at hl 1 rfl) ?_
  refine lv_iload hx hb dL_law_747 (lv_at hl 5 rfl) ?_
  refine li_const hx hb dL_law_749 ?_
  refine li_add hx hb dL_law_750 ?_
  refine li_sld hx hb hXs hbl hbA hS (by omega) (by omega) (ib_i (by omega) (by omega)) dL_law_751 ?_
  refine lv_aload_n hx hb dL_law_752 rfl (lv_at hl 1 rfl) ?_
  refine lv_iload hx hb dL_law_753 (lv_at hl 5 rfl) ?_
  refine li_const hx hb dL_law_755 ?_
  refine li_add hx hb dL_law_756 ?_
  refine li_sld hx hb hXs hbl hbA hS (by omega) (by omega) (ib_i (by omega) (by omega)) dL_law_757 ?_
  refine cl_p (As := [.int (iI (sx xs (i + 1))), .int (iI (sx xs (i + 2)))]) (rest := []) (ci := 6) (q0 := 0) ⟨hx, hb, hml, hown, hts⟩ hM (cwV 2 hts gL_law_X6_wind rfl rfl rfl (by decide +kernel) ⟨Nat.le_of_ble_eq_true rfl, Nat.le_of_ble_eq_true rfl⟩) hK hNW hP hD hS hA rfl rfl hm rfl hl.1 rfl (Nat.le_of_ble_eq_true rfl) dL_law_758 hf (fun H locs hP hD hS => ?_)
  refine lv_istore (lv' := [(6, .int (iI r)), (5, .int (iI k)), (0, .ref b), (1, .ref S0), (2, .ref M0), (3, .ref O0), (4, .int (iI i))]) hx hb dL_law_761 hl (by decide) rfl (fun ls hl => ?_)
  refine lv_aload_n hx hb dL_law_763 rfl (lv_at hl 4 rfl) ?_
  refine cl_p (As := []) (rest := []) (ci := 6) (q0 := 0) ⟨hx, hb, hml, hown, hts⟩ hT (cwV 0 hts gL_law_X6_thrown rfl rfl rfl (by decide +kernel) ⟨Nat.le_of_ble_eq_true rfl, Nat.le_of_ble_eq_true rfl⟩) hK hNW hP hD hS hA rfl rfl hm1 rfl hl.1 rfl (Nat.le_of_ble_eq_true rfl) dL_law_764 hf (fun H locs hP hD hS => ?_)
  have hP := wp_perm (wq_c _ _) hP
  have hD := wd_perm (wq_c _ _) hD
  refine lv_iload hx hb dL_law_767 (lv_at hl 1 rfl) ?_
  refine li_icmp_eq_s (tgt := 774) hx hb dL_law_769 (by decide) rfl ?_
  refine lv_iload hx hb dL_law_774 (lv_at hl 1 rfl) ?_
  refine li_if_ne (tgt := 791) hx hb dL_law_776 (by decide) hk (fun _ => ?_) (fun c_0 => ?_)
  · refine lv_goto (tgt := 1733) hx hb dL_law_791 (by decide) ?_
    exact K _ _ _ hP hD hS (lv_sub hl [2, 3, 4, 5, 6] rfl)
  · obtain ⟨q, f, hq, hf0⟩ := ho c_0
    refine lv_aload_n hx hb dL_law_779 rfl (lv_at hl 5 rfl) ?_
    refine li_const hx hb dL_law_780 ?_
    refine li_lald0 (q0 := q) (t0 := 2) (v := (iI r).toInt64) hx hb hK hP (wg_l (wg_l hq)) rfl hf0 dL_law_781 ?_
    refine lv_iload hx hb dL_law_782 (lv_at hl 0 rfl) ?_
    refine lv_i2l (v := (iI r).toInt64) hx hb dL_law_784 rfl ?_
    refine li_lceq hx hb rfl dL_law_785 ?_
    refine li_if_eq_t (tgt := 791) hx hb dL_law_786 (by decide) (by decide) (by decide) ?_
    refine lv_goto (tgt := 1733) hx hb dL_law_791 (by decide) ?_
    exact K _ _ _ hP hD hS (lv_sub hl [2, 3, 4, 5, 6] rfl)

set_option maxRecDepth 100000 in
set_option maxHeartbeats 1000000 in
theorem sh_pass {p : Program} {l : Launch} {e : Env} {s : State} {m : MethodId} {below : List Frame} {meth : Method} {c : Code} {H : Heap} {locs : List Loc} {cells slots : Nat} {Q : State → Prop} {ls : Array Slot} {D : va_G} {A : Nat → Prop} {cI cZ cJ : ClassId} {b N : Nat} {xs : Nat → Int32} {i : Int} {S0 M0 O0 : Nat} {wc wc1 wR wM wM1 : va_W} {wM2 : va_W} {k r : Int} {fm fm1 : List Value} (hF : LFx p s m c b N xs D (ty3 cI cZ cJ) A) (hi : 3 ≤ i ∧ i + 3 < (N : Int)) (hN : N ≤ 2051) (hf : cells + 1 ≤ room_1.cells ∧ slots + 6 ≤ room_1.slots) (hk : ib k) (hX : CW l yL_pass wsL_pass 26 [.ref S0, .int (iI (sx xs (i + 1))), .ref O0] D (ty3 cI cZ cJ) wc k wc1) (hM : Di l yX6_pass wsX6_pass 25 [.ref M0, .int (iI (sx xs (i + 1)))] D (ty3 cI cZ cJ) wM r wM1) (hT : Di l yX6_thrown wsX6_thrown 1 [.ref M0] D (ty3 cI cZ cJ) wM1 k wM2) (hm : wM[0]? = some (M0, .inr (6, fm))) (hm1 : wM1[0]? = some (M0, .inr (6, fm1))) (ho : k = 0 → ∃ (q : Nat) (f : Nat → Int64), wc1[q]? = some (O0, .inl (cJ, 1, .inr (.inl f))) ∧ f 0 = (iI r).toInt64) (hP : va_P D vwCl ((wc ++ wR) ++ wM) H) (hD : va_D A ((wc ++ wR) ++ wM)) (hS : va_S A s.heap H locs) (hl : lv_has ls 9 [(0, .ref b), (1, .ref S0), (2, .ref M0), (3, .ref O0), (4, .int (iI i))])
  (K : ∀ (H : Heap) (locs : List Loc) (ls : Array Slot), va_P D vwCl ((wc1 ++ wR) ++ wM2) H → va_D A ((wc1 ++ wR) ++ wM2) → va_S A s.heap H locs → lv_has ls 9 [(0, .ref b), (1, .ref S0), (2, .ref M0), (3, .ref O0), (4, .int (iI i))] → W p l e room_1 s m #[Value.ref b] below meth c H locs (cells + 1) (slots + 6) Q (F0 m 1733 ls [])) :
  W p l e room_1 s m #[Value.ref b] below meth c H locs cells slots Q (F0 m 794 ls []) := by
  obtain ⟨hx, hb, hml, hts, hown, hXs, hbl, hbA, hA, hK, hNW, hXP, hNC⟩ := hF
  have i_1 := sx_b xs (i + 1)
  rw [List.append_assoc] at hP hD
  refine lv_aload_n hx hb dL_law_794 rfl (lv_at hl 1 rfl) ?_
  refine lv_aload_n hx hb dL_law_795 rfl (lv_at hl 0 rfl) ?_
  refine lv_iload hx hb dL_law_796 (lv_at hl 4 rfl) ?_
  refine li_const hx hb dL_law_798 ?_
  refine li_add hx hb dL_law_799 ?_
  refine li_sld hx hb hXs hbl hbA hS (by omega) (by omega) (ib_i (by omega) (by omega)) dL_law_800 ?_
  refine lv_aload_n hx hb dL_law_801 rfl (lv_at hl 3 rfl) ?_
  refine cs_p (As := [.ref S0, .int (iI (sx xs (i + 1))), .ref O0]) (rest := []) (hh := [(0, 9, 12, 18)]) ⟨hx, hb, hml, hown, hts⟩ hX (vx_cwSW 3 hts gL_law_L_pass rfl rfl rfl (by decide +kernel) ⟨Nat.le_of_ble_eq_true rfl, Nat.le_of_ble_eq_true rfl⟩) hK hNW hXP hNC hP hD hS hA rfl hl.1 rfl (Nat.le_of_ble_eq_true rfl) dL_law_802 hf (fun H locs hP hD hS => ?_)
  rw [← List.append_assoc] at hP hD
  have hP := wp_perm (wq_c _ _) hP
  have hD := wd_perm (wq_c _ _) hD
  refine lv_istore (lv' := [(5, .int (iI k)), (0, .ref b), (1, .ref S0), (2, .ref M0), (3, .ref O0), (4, .int (iI i))]) hx hb dL_law_805 hl (by decide) rfl (fun ls hl => ?_)
  refine lv_aload_n hx hb dL_law_807 rfl (lv_at hl 3 rfl) ?_
  refine lv_aload_n hx hb dL_law_808 rfl (lv_at hl 1 rfl) ?_
  refine lv_iload hx hb dL_law_809 (lv_at hl 5 rfl) ?_
  refine li_const hx hb dL_law_811 ?_
  refine li_add hx hb dL_law_812 ?_
  refine li_sld hx hb hXs hbl hbA hS (by omega) (by omega) (ib_i (by omega) (by omega)) dL_law_813 ?_
  refine cl_p (As := [.int (iI (sx xs (i + 1)))]) (rest := []) (ci := 6) (q0 := 0) ⟨hx, hb, hml, hown, hts⟩ hM (cwV 1 hts gL_law_X6_pass rfl rfl rfl (by decide +kernel) ⟨Nat.le_of_ble_eq_true rfl, Nat.le_of_ble_eq_true rfl⟩) hK hNW hP hD hS hA rfl rfl hm rfl hl.1 rfl (Nat.le_of_ble_eq_true rfl) dL_law_814 hf (fun H locs hP hD hS => ?_)
  refine lv_istore (lv' := [(6, .int (iI r)), (5, .int (iI k)), (0, .ref b), (1, .ref S0), (2, .ref M0), (3, .ref O0), (4, .int (iI i))]) hx hb dL_law_817 hl (by decide) rfl (fun ls hl => ?_)
  refine lv_aload_n hx hb dL_law_819 rfl (lv_at hl 4 rfl) ?_
  refine cl_p (As := []) (rest := []) (ci := 6) (q0 := 0) ⟨hx, hb, hml, hown, hts⟩ hT (cwV 0 hts gL_law_X6_thrown rfl rfl rfl (by decide +kernel) ⟨Nat.le_of_ble_eq_true rfl, Nat.le_of_ble_eq_true rfl⟩) hK hNW hP hD hS hA rfl rfl hm1 rfl hl.1 rfl (Nat.le_of_ble_eq_true rfl) dL_law_820 hf (fun H locs hP hD hS => ?_)
  have hP := wp_perm (wq_c _ _) hP
  have hD := wd_perm (wq_c _ _) hD
  refine lv_iload hx hb dL_law_823 (lv_at hl 1 rfl) ?_
  refine li_icmp_eq_s (tgt := 830) hx hb dL_law_825 (by decide) rfl ?_
  refine lv_iload hx hb dL_law_830 (lv_at hl 1 rfl) ?_
  refine li_if_ne (tgt := 847) hx hb dL_law_832 (by decide) hk (fun _ => ?_) (fun c_0 => ?_)
  · refine lv_goto (tgt := 1733) hx hb dL_law_847 (by decide) ?_
    exact K _ _ _ hP hD hS (lv_sub hl [2, 3, 4, 5, 6] rfl)
  · obtain ⟨q, f, hq, hf0⟩ := ho c_0
    refine lv_aload_n hx hb dL_law_835 rfl (lv_at hl 5 rfl) ?_
    refine li_const hx hb dL_law_836 ?_
    refine li_lald0 (q0 := q) (t0 := 2) (v := (iI r).toInt64) hx hb hK hP (wg_l (wg_l hq)) rfl hf0 dL_law_837 ?_
    refine lv_iload hx hb dL_law_838 (lv_at hl 0 rfl) ?_
    refine lv_i2l (v := (iI r).toInt64) hx hb dL_law_840 rfl ?_
    refine li_lceq hx hb rfl dL_law_841 ?_
    refine li_if_eq_t (tgt := 847) hx hb dL_law_842 (by decide) (by decide) (by decide) ?_
    refine lv_goto (tgt := 1733) hx hb dL_law_847 (by decide) ?_
    exact K _ _ _ hP hD hS (lv_sub hl [2, 3, 4, 5, 6] rfl)

set_option maxRecDepth 100000 in
set_option maxHeartbeats 1000000 in
theorem sh_clock {p : Program} {l : Launch} {e : Env} {s : State} {m : MethodId} {below : List Frame} {meth : Method} {c : Code} {H : Heap} {locs : List Loc} {cells slots : Nat} {Q : State → Prop} {ls : Array Slot} {D : va_G} {A : Nat → Prop} {cI cZ cJ : ClassId} {b N : Nat} {xs : Nat → Int32} {i : Int} {S0 M0 O0 : Nat} {wc wc1 wR wM wM1 : va_W} {r r1 : Int} {fx fm : List Value} (hF : LFx p s m c b N xs D (ty3 cI cZ cJ) A) (hi : 3 ≤ i ∧ i + 3 < (N : Int)) (hN : N ≤ 2051) (hf : cells ≤ room_1.cells ∧ slots ≤ room_1.slots) (hX : Di l yX5_clock wsX5_clock 25 [.ref S0] D (ty3 cI cZ cJ) wc r wc1) (hM : Di l yX6_clock wsX6_clock 25 [.ref M0] D (ty3 cI cZ cJ) wM r1 wM1) (hrr : r = r1) (hx5 : wc[0]? = some (S0, .inr (5, fx))) (hm : wM[0]? = some (M0, .inr (6, fm))) (hP : va_P D vwCl ((wc ++ wR) ++ wM) H) (hD : va_D A ((wc ++ wR) ++ wM)) (hS : va_S A s.heap H locs) (hl : lv_has ls 9 [(0, .ref b), (1, .ref S0), (2, .ref M0), (3, .ref O0), (4, .int (iI i))])
  (K : ∀ (H : Heap) (locs : List Loc) (ls : Array Slot), va_P D vwCl ((wc1 ++ wR) ++ wM1) H → va_D A ((wc1 ++ wR) ++ wM1) → va_S A s.heap H locs → lv_has ls 9 [(0, .ref b), (1, .ref S0), (2, .ref M0), (3, .ref O0), (4, .int (iI i))] → W p l e room_1 s m #[Value.ref b] below meth c H locs cells slots Q (F0 m 1733 ls [])) :
  W p l e room_1 s m #[Value.ref b] below meth c H locs cells slots Q (F0 m 850 ls []) := by
  obtain ⟨hx, hb, hml, hts, hown, hXs, hbl, hbA, hA, hK, hNW, hXP, hNC⟩ := hF
  rw [List.append_assoc] at hP hD
  refine lv_aload_n hx hb dL_law_850 rfl (lv_at hl 1 rfl) ?_
  refine cl_p (As := []) (rest := []) (ci := 5) (q0 := 0) ⟨hx, hb, hml, hown, hts⟩ hX (cwV 0 hts gL_law_X5_clock rfl rfl rfl (by decide +kernel) ⟨Nat.le_of_ble_eq_true rfl, Nat.le_of_ble_eq_true rfl⟩) hK hNW hP hD hS hA rfl rfl hx5 rfl hl.1 rfl (Nat.le_of_ble_eq_true rfl) dL_law_851 hf (fun H locs hP hD hS => ?_)
  rw [← List.append_assoc] at hP hD
  have hP := wp_perm (wq_c _ _) hP
  have hD := wd_perm (wq_c _ _) hD
  refine lv_aload_n hx hb dL_law_854 rfl (lv_at hl 2 rfl) ?_
  refine cl_p (As := []) (rest := [.int (iI r)]) (ci := 6) (q0 := 0) ⟨hx, hb, hml, hown, hts⟩ hM (cwV 0 hts gL_law_X6_clock rfl rfl rfl (by decide +kernel) ⟨Nat.le_of_ble_eq_true rfl, Nat.le_of_ble_eq_true rfl⟩) hK hNW hP hD hS hA rfl rfl hm rfl hl.1 rfl (Nat.le_of_ble_eq_true rfl) dL_law_855 hf (fun H locs hP hD hS => ?_)
  have hP := wp_perm (wq_c _ _) hP
  have hD := wd_perm (wq_c _ _) hD
  refine li_icmp_eq_s (tgt := 1733) hx hb dL_law_858 (by decide) hrr ?_
  exact K _ _ _ hP hD hS (lv_sub hl [0, 1, 2, 3, 4] rfl)

set_option maxRecDepth 100000 in
set_option maxHeartbeats 1000000 in
theorem sh_addBoat {p : Program} {l : Launch} {e : Env} {s : State} {m : MethodId} {below : List Frame} {meth : Method} {c : Code} {H : Heap} {locs : List Loc} {cells slots : Nat} {Q : State → Prop} {ls : Array Slot} {D : va_G} {A : Nat → Prop} {cI cZ cJ : ClassId} {b N : Nat} {xs : Nat → Int32} {i : Int} {S0 M0 O0 : Nat} {wc wc1 wR wM wM1 : va_W} {wM2 : va_W} {k r : Int} {fm fm1 : List Value} (hF : LFx p s m c b N xs D (ty3 cI cZ cJ) A) (hi : 3 ≤ i ∧ i + 3 < (N : Int)) (hN : N ≤ 2051) (hf : cells + 1 ≤ room_1.cells ∧ slots + 6 ≤ room_1.slots) (hk : ib k) (hX : CW l yL_addBoat wsL_addBoat 26 [.ref S0, .int (iI (sx xs (i + 1))), .int (iI (sx xs (i + 2))), .int (iI (ub (sx xs (i + 3)))), .ref O0] D (ty3 cI cZ cJ) wc k wc1) (hM : Di l yX6_addBoat wsX6_addBoat 25 [.ref M0, .int (iI (sx xs (i + 1))), .int (iI (sx xs (i + 2))), .int (iI (ub (sx xs (i + 3))))] D (ty3 cI cZ cJ) wM r wM1) (hT : Di l yX6_thrown wsX6_thrown 1 [.ref M0] D (ty3 cI cZ cJ) wM1 k wM2) (hm : wM[0]? = some (M0, .inr (6, fm))) (hm1 : wM1[0]? = some (M0, .inr (6, fm1))) (ho : k = 0 → ∃ (q : Nat) (f : Nat → Int64), wc1[q]? = some (O0, .inl (cJ, 1, .inr (.inl f))) ∧ f 0 = (iI r).toInt64) (hP : va_P D vwCl ((wc ++ wR) ++ wM) H) (hD : va_D A ((wc ++ wR) ++ wM)) (hS : va_S A s.heap H locs) (hl : lv_has ls 9 [(0, .ref b), (1, .ref S0), (2, .ref M0), (3, .ref O0), (4, .int (iI i))])
  (K : ∀ (H : Heap) (locs : List Loc) (ls : Array Slot), va_P D vwCl ((wc1 ++ wR) ++ wM2) H → va_D A ((wc1 ++ wR) ++ wM2) → va_S A s.heap H locs → lv_has ls 9 [(0, .ref b), (1, .ref S0), (2, .ref M0), (3, .ref O0), (4, .int (iI i))] → W p l e room_1 s m #[Value.ref b] below meth c H locs (cells + 1) (slots + 6) Q (F0 m 1733 ls [])) :
  W p l e room_1 s m #[Value.ref b] below meth c H locs cells slots Q (F0 m 863 ls []) := by
  obtain ⟨hx, hb, hml, hts, hown, hXs, hbl, hbA, hA, hK, hNW, hXP, hNC⟩ := hF
  have i_1 := sx_b xs (i + 1)
  have i_2 := sx_b xs (i + 2)
  have i_3 := sx_b xs (i + 3)
  rw [List.append_assoc] at hP hD
  refine lv_aload_n hx hb dL_law_863 rfl (lv_at hl 1 rfl) ?_
  refine lv_aload_n hx hb dL_law_864 rfl (lv_at hl 0 rfl) ?_
  refine lv_iload hx hb dL_law_865 (lv_at hl 4 rfl) ?_
  refine li_const hx hb dL_law_867 ?_
  refine li_add hx hb dL_law_868 ?_
  refine li_sld hx hb hXs hbl hbA hS (by omega) (by omega) (ib_i (by omega) (by omega)) dL_law_869 ?_
  refine lv_aload_n hx hb dL_law_870 rfl (lv_at hl 0 rfl) ?_
  refine lv_iload hx hb dL_law_871 (lv_at hl 4 rfl) ?_
  refine li_const hx hb dL_law_873 ?_
  refine li_add hx hb dL_law_874 ?_
  refine li_sld hx hb hXs hbl hbA hS (by omega) (by omega) (ib_i (by omega) (by omega)) dL_law_875 ?_
  refine lv_aload_n hx hb dL_law_876 rfl (lv_at hl 0 rfl) ?_
  refine lv_iload hx hb dL_law_877 (lv_at hl 4 rfl) ?_
  refine li_const hx hb dL_law_879 ?_
  refine li_add hx hb dL_law_880 ?_
  refine li_sld hx hb hXs hbl hbA hS (by omega) (by omega) (ib_i (by omega) (by omega)) dL_law_881 ?_
  refine li_nz hx hb (ib_i i_3.1 (by omega)) dL_law_882 dL_law_885 dL_law_886 dL_law_889 ?_
  refine lv_aload_n hx hb dL_law_890 rfl (lv_at hl 3 rfl) ?_
  refine cs_p (As := [.ref S0, .int (iI (sx xs (i + 1))), .int (iI (sx xs (i + 2))), .int (iI (ub (sx xs (i + 3)))), .ref O0]) (rest := []) (hh := [(0, 12, 15, 18), (0, 12, 19, 20)]) ⟨hx, hb, hml, hown, hts⟩ hX (vx_cwSW 5 hts gL_law_L_addBoat rfl rfl rfl (by decide +kernel) ⟨Nat.le_of_ble_eq_true rfl, Nat.le_of_ble_eq_true rfl⟩) hK hNW hXP hNC hP hD hS hA rfl hl.1 rfl (Nat.le_of_ble_eq_true rfl) dL_law_891 hf (fun H locs hP hD hS => ?_)
  rw [← List.append_assoc] at hP hD
  have hP := wp_perm (wq_c _ _) hP
  have hD := wd_perm (wq_c _ _) hD
  refine lv_istore (lv' := [(5, .int (iI k)), (0, .ref b), (1, .ref S0), (2, .ref M0), (3, .ref O0), (4, .int (iI i))]) hx hb dL_law_894 hl (by decide) rfl (fun ls hl => ?_)
  refine lv_aload_n hx hb dL_law_896 rfl (lv_at hl 3 rfl) ?_
  refine lv_aload_n hx hb dL_law_897 rfl (lv_at hl 1 rfl) ?_
  refine lv_iload hx hb dL_law_898 (lv_at hl 5 rfl) ?_
  refine li_const hx hb dL_law_900 ?_
  refine li_add hx hb dL_law_901 ?_
  refine li_sld hx hb hXs hbl hbA hS (by omega) (by omega) (ib_i (by omega) (by omega)) dL_law_902 ?_
  refine lv_aload_n hx hb dL_law_903 rfl (lv_at hl 1 rfl) ?_
  refine lv_iload hx hb dL_law_904 (lv_at hl 5 rfl) ?_
  refine li_const hx hb dL_law_906 ?_
  refine li_add hx hb dL_law_907 ?_
  refine li_sld hx hb hXs hbl hbA hS (by omega) (by omega) (ib_i (by omega) (by omega)) dL_law_908 ?_
  refine lv_aload_n hx hb dL_law_909 rfl (lv_at hl 1 rfl) ?_
  refine lv_iload hx hb dL_law_910 (lv_at hl 5 rfl) ?_
  refine li_const hx hb dL_law_912 ?_
  refine li_add hx hb dL_law_913 ?_
  refine li_sld hx hb hXs hbl hbA hS (by omega) (by omega) (ib_i (by omega) (by omega)) dL_law_914 ?_
  refine li_nz hx hb (ib_i i_3.1 (by omega)) dL_law_915 dL_law_918 dL_law_919 dL_law_922 ?_
  refine cl_p (As := [.int (iI (sx xs (i + 1))), .int (iI (sx xs (i + 2))), .int (iI (ub (sx xs (i + 3))))]) (rest := []) (ci := 6) (q0 := 0) ⟨hx, hb, hml, hown, hts⟩ hM (cwV 3 hts gL_law_X6_addBoat rfl rfl rfl (by decide +kernel) ⟨Nat.le_of_ble_eq_true rfl, Nat.le_of_ble_eq_true rfl⟩) hK hNW hP hD hS hA rfl rfl hm rfl hl.1 rfl (Nat.le_of_ble_eq_true rfl) dL_law_923 hf (fun H locs hP hD hS => ?_)
  refine lv_istore (lv' := [(6, .int (iI r)), (5, .int (iI k)), (0, .ref b), (1, .ref S0), (2, .ref M0), (3, .ref O0), (4, .int (iI i))]) hx hb dL_law_926 hl (by decide) rfl (fun ls hl => ?_)
  refine lv_aload_n hx hb dL_law_928 rfl (lv_at hl 4 rfl) ?_
  refine cl_p (As := []) (rest := []) (ci := 6) (q0 := 0) ⟨hx, hb, hml, hown, hts⟩ hT (cwV 0 hts gL_law_X6_thrown rfl rfl rfl (by decide +kernel) ⟨Nat.le_of_ble_eq_true rfl, Nat.le_of_ble_eq_true rfl⟩) hK hNW hP hD hS hA rfl rfl hm1 rfl hl.1 rfl (Nat.le_of_ble_eq_true rfl) dL_law_929 hf (fun H locs hP hD hS => ?_)
  have hP := wp_perm (wq_c _ _) hP
  have hD := wd_perm (wq_c _ _) hD
  refine lv_iload hx hb dL_law_932 (lv_at hl 1 rfl) ?_
  refine li_icmp_eq_s (tgt := 939) hx hb dL_law_934 (by decide) rfl ?_
  refine lv_iload hx hb dL_law_939 (lv_at hl 1 rfl) ?_
  refine li_if_ne (tgt := 956) hx hb dL_law_941 (by decide) hk (fun _ => ?_) (fun c_0 => ?_)
  · refine lv_goto (tgt := 1733) hx hb dL_law_956 (by decide) ?_
    exact K _ _ _ hP hD hS (lv_sub hl [2, 3, 4, 5, 6] rfl)
  · obtain ⟨q, f, hq, hf0⟩ := ho c_0
    refine lv_aload_n hx hb dL_law_944 rfl (lv_at hl 5 rfl) ?_
    refine li_const hx hb dL_law_945 ?_
    refine li_lald0 (q0 := q) (t0 := 2) (v := (iI r).toInt64) hx hb hK hP (wg_l (wg_l hq)) rfl hf0 dL_law_946 ?_
    refine lv_iload hx hb dL_law_947 (lv_at hl 0 rfl) ?_
    refine lv_i2l (v := (iI r).toInt64) hx hb dL_law_949 rfl ?_
    refine li_lceq hx hb rfl dL_law_950 ?_
    refine li_if_eq_t (tgt := 956) hx hb dL_law_951 (by decide) (by decide) (by decide) ?_
    refine lv_goto (tgt := 1733) hx hb dL_law_956 (by decide) ?_
    exact K _ _ _ hP hD hS (lv_sub hl [2, 3, 4, 5, 6] rfl)
