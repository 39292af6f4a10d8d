set_option maxRecDepth 100000 in
set_option maxHeartbeats 1000000 in
theorem sh_boatCount {p : Program} {l : Launch} {e : Env} {s : State} {m : MethodId} {below : List Frame} {meth : Method} {c : Code} {H : Heap} {locs : List Loc} {cells slots : Nat} {Q : State → Prop} {ls : Array Slot} {D : va_G} {A : Nat → Prop} {cI cZ cJ : ClassId} {b N : Nat} {xs : Nat → Int32} {i : Int} {S0 M0 O0 : Nat} {wc wc1 wR wM wM1 : va_W} {r r1 : Int} {fx fm : List Value} (hF : LFx p s m c b N xs D (ty3 cI cZ cJ) A) (hi : 3 ≤ i ∧ i + 3 < (N : Int)) (hN : N ≤ 2051) (hf : cells ≤ room_1.cells ∧ slots ≤ room_1.slots) (hX : Di l yX5_boatCount wsX5_boatCount 25 [.ref S0] D (ty3 cI cZ cJ) wc r wc1) (hM : Di l yX6_boatCount wsX6_boatCount 25 [.ref M0] D (ty3 cI cZ cJ) wM r1 wM1) (hrr : r = r1) (hx5 : wc[0]? = some (S0, .inr (5, fx))) (hm : wM[0]? = some (M0, .inr (6, fm))) (hP : va_P D vwCl ((wc ++ wR) ++ wM) H) (hD : va_D A ((wc ++ wR) ++ wM)) (hS : va_S A s.heap H locs) (hl : lv_has ls 9 [(0, .ref b), (1, .ref S0), (2, .ref M0), (3, .ref O0), (4, .int (iI i))])
  (K : ∀ (H : Heap) (locs : List Loc) (ls : Array Slot), va_P D vwCl ((wc1 ++ wR) ++ wM1) H → va_D A ((wc1 ++ wR) ++ wM1) → va_S A s.heap H locs → lv_has ls 9 [(0, .ref b), (1, .ref S0), (2, .ref M0), (3, .ref O0), (4, .int (iI i))] → W p l e room_1 s m #[Value.ref b] below meth c H locs cells slots Q (F0 m 1733 ls [])) :
  W p l e room_1 s m #[Value.ref b] below meth c H locs cells slots Q (F0 m 959 ls []) := by
  obtain ⟨hx, hb, hml, hts, hown, hXs, hbl, hbA, hA, hK, hNW, hXP, hNC⟩ := hF
  rw [List.append_assoc] at hP hD
  refine lv_aload_n hx hb dL_law_959 rfl (lv_at hl 1 rfl) ?_
  refine cl_p (As := []) (rest := []) (ci := 5) (q0 := 0) ⟨hx, hb, hml, hown, hts⟩ hX (cwV 0 hts gL_law_X5_boatCount rfl rfl rfl (by decide +kernel) ⟨Nat.le_of_ble_eq_true rfl, Nat.le_of_ble_eq_true rfl⟩) hK hNW hP hD hS hA rfl rfl hx5 rfl hl.1 rfl (Nat.le_of_ble_eq_true rfl) dL_law_960 hf (fun H locs hP hD hS => ?_)
  rw [← List.append_assoc] at hP hD
  have hP := wp_perm (wq_c _ _) hP
  have hD := wd_perm (wq_c _ _) hD
  refine lv_aload_n hx hb dL_law_963 rfl (lv_at hl 2 rfl) ?_
  refine cl_p (As := []) (rest := [.int (iI r)]) (ci := 6) (q0 := 0) ⟨hx, hb, hml, hown, hts⟩ hM (cwV 0 hts gL_law_X6_boatCount rfl rfl rfl (by decide +kernel) ⟨Nat.le_of_ble_eq_true rfl, Nat.le_of_ble_eq_true rfl⟩) hK hNW hP hD hS hA rfl rfl hm rfl hl.1 rfl (Nat.le_of_ble_eq_true rfl) dL_law_964 hf (fun H locs hP hD hS => ?_)
  have hP := wp_perm (wq_c _ _) hP
  have hD := wd_perm (wq_c _ _) hD
  refine li_icmp_eq_s (tgt := 1733) hx hb dL_law_967 (by decide) hrr ?_
  exact K _ _ _ hP hD hS (lv_sub hl [0, 1, 2, 3, 4] rfl)

set_option maxRecDepth 100000 in
set_option maxHeartbeats 1000000 in
theorem sh_placeOf {p : Program} {l : Launch} {e : Env} {s : State} {m : MethodId} {below : List Frame} {meth : Method} {c : Code} {H : Heap} {locs : List Loc} {cells slots : Nat} {Q : State → Prop} {ls : Array Slot} {D : va_G} {A : Nat → Prop} {cI cZ cJ : ClassId} {b N : Nat} {xs : Nat → Int32} {i : Int} {S0 M0 O0 : Nat} {wc wc1 wR wM wM1 : va_W} {wM2 : va_W} {k r : Int} {fm fm1 : List Value} (hF : LFx p s m c b N xs D (ty3 cI cZ cJ) A) (hi : 3 ≤ i ∧ i + 3 < (N : Int)) (hN : N ≤ 2051) (hf : cells + 1 ≤ room_1.cells ∧ slots + 6 ≤ room_1.slots) (hk : ib k) (hX : CW l yL_placeOf wsL_placeOf 26 [.ref S0, .int (iI (sx xs (i + 1))), .ref O0] D (ty3 cI cZ cJ) wc k wc1) (hM : Di l yX6_placeOf wsX6_placeOf 25 [.ref M0, .int (iI (sx xs (i + 1)))] D (ty3 cI cZ cJ) wM r wM1) (hT : Di l yX6_thrown wsX6_thrown 1 [.ref M0] D (ty3 cI cZ cJ) wM1 k wM2) (hm : wM[0]? = some (M0, .inr (6, fm))) (hm1 : wM1[0]? = some (M0, .inr (6, fm1))) (ho : k = 0 → ∃ (q : Nat) (f : Nat → Int64), wc1[q]? = some (O0, .inl (cJ, 1, .inr (.inl f))) ∧ f 0 = (iI r).toInt64) (hP : va_P D vwCl ((wc ++ wR) ++ wM) H) (hD : va_D A ((wc ++ wR) ++ wM)) (hS : va_S A s.heap H locs) (hl : lv_has ls 9 [(0, .ref b), (1, .ref S0), (2, .ref M0), (3, .ref O0), (4, .int (iI i))])
  (K : ∀ (H : Heap) (locs : List Loc) (ls : Array Slot), va_P D vwCl ((wc1 ++ wR) ++ wM2) H → va_D A ((wc1 ++ wR) ++ wM2) → va_S A s.heap H locs → lv_has ls 9 [(0, .ref b), (1, .ref S0), (2, .ref M0), (3, .ref O0), (4, .int (iI i))] → W p l e room_1 s m #[Value.ref b] below meth c H locs (cells + 1) (slots + 6) Q (F0 m 1733 ls [])) :
  W p l e room_1 s m #[Value.ref b] below meth c H locs cells slots Q (F0 m 972 ls []) := by
  obtain ⟨hx, hb, hml, hts, hown, hXs, hbl, hbA, hA, hK, hNW, hXP, hNC⟩ := hF
  have i_1 := sx_b xs (i + 1)
  rw [List.append_assoc] at hP hD
  refine lv_aload_n hx hb dL_law_972 rfl (lv_at hl 1 rfl) ?_
  refine lv_aload_n hx hb dL_law_973 rfl (lv_at hl 0 rfl) ?_
  refine lv_iload hx hb dL_law_974 (lv_at hl 4 rfl) ?_
  refine li_const hx hb dL_law_976 ?_
  refine li_add hx hb dL_law_977 ?_
  refine li_sld hx hb hXs hbl hbA hS (by omega) (by omega) (ib_i (by omega) (by omega)) dL_law_978 ?_
  refine lv_aload_n hx hb dL_law_979 rfl (lv_at hl 3 rfl) ?_
  refine cs_p (As := [.ref S0, .int (iI (sx xs (i + 1))), .ref O0]) (rest := []) (hh := [(0, 9, 12, 13)]) ⟨hx, hb, hml, hown, hts⟩ hX (vx_cwSW 3 hts gL_law_L_placeOf rfl rfl rfl (by decide +kernel) ⟨Nat.le_of_ble_eq_true rfl, Nat.le_of_ble_eq_true rfl⟩) hK hNW hXP hNC hP hD hS hA rfl hl.1 rfl (Nat.le_of_ble_eq_true rfl) dL_law_980 hf (fun H locs hP hD hS => ?_)
  rw [← List.append_assoc] at hP hD
  have hP := wp_perm (wq_c _ _) hP
  have hD := wd_perm (wq_c _ _) hD
  refine lv_istore (lv' := [(5, .int (iI k)), (0, .ref b), (1, .ref S0), (2, .ref M0), (3, .ref O0), (4, .int (iI i))]) hx hb dL_law_983 hl (by decide) rfl (fun ls hl => ?_)
  refine lv_aload_n hx hb dL_law_985 rfl (lv_at hl 3 rfl) ?_
  refine lv_aload_n hx hb dL_law_986 rfl (lv_at hl 1 rfl) ?_
  refine lv_iload hx hb dL_law_987 (lv_at hl 5 rfl) ?_
  refine li_const hx hb dL_law_989 ?_
  refine li_add hx hb dL_law_990 ?_
  refine li_sld hx hb hXs hbl hbA hS (by omega) (by omega) (ib_i (by omega) (by omega)) dL_law_991 ?_
  refine cl_p (As := [.int (iI (sx xs (i + 1)))]) (rest := []) (ci := 6) (q0 := 0) ⟨hx, hb, hml, hown, hts⟩ hM (cwV 1 hts gL_law_X6_placeOf rfl rfl rfl (by decide +kernel) ⟨Nat.le_of_ble_eq_true rfl, Nat.le_of_ble_eq_true rfl⟩) hK hNW hP hD hS hA rfl rfl hm rfl hl.1 rfl (Nat.le_of_ble_eq_true rfl) dL_law_992 hf (fun H locs hP hD hS => ?_)
  refine lv_istore (lv' := [(6, .int (iI r)), (5, .int (iI k)), (0, .ref b), (1, .ref S0), (2, .ref M0), (3, .ref O0), (4, .int (iI i))]) hx hb dL_law_995 hl (by decide) rfl (fun ls hl => ?_)
  refine lv_aload_n hx hb dL_law_997 rfl (lv_at hl 4 rfl) ?_
  refine cl_p (As := []) (rest := []) (ci := 6) (q0 := 0) ⟨hx, hb, hml, hown, hts⟩ hT (cwV 0 hts gL_law_X6_thrown rfl rfl rfl (by decide +kernel) ⟨Nat.le_of_ble_eq_true rfl, Nat.le_of_ble_eq_true rfl⟩) hK hNW hP hD hS hA rfl rfl hm1 rfl hl.1 rfl (Nat.le_of_ble_eq_true rfl) dL_law_998 hf (fun H locs hP hD hS => ?_)
  have hP := wp_perm (wq_c _ _) hP
  have hD := wd_perm (wq_c _ _) hD
  refine lv_iload hx hb dL_law_1001 (lv_at hl 1 rfl) ?_
  refine li_icmp_eq_s (tgt := 1008) hx hb dL_law_1003 (by decide) rfl ?_
  refine lv_iload hx hb dL_law_1008 (lv_at hl 1 rfl) ?_
  refine li_if_ne (tgt := 1025) hx hb dL_law_1010 (by decide) hk (fun _ => ?_) (fun c_0 => ?_)
  · refine lv_goto (tgt := 1733) hx hb dL_law_1025 (by decide) ?_
    exact K _ _ _ hP hD hS (lv_sub hl [2, 3, 4, 5, 6] rfl)
  · obtain ⟨q, f, hq, hf0⟩ := ho c_0
    refine lv_aload_n hx hb dL_law_1013 rfl (lv_at hl 5 rfl) ?_
    refine li_const hx hb dL_law_1014 ?_
    refine li_lald0 (q0 := q) (t0 := 2) (v := (iI r).toInt64) hx hb hK hP (wg_l (wg_l hq)) rfl hf0 dL_law_1015 ?_
    refine lv_iload hx hb dL_law_1016 (lv_at hl 0 rfl) ?_
    refine lv_i2l (v := (iI r).toInt64) hx hb dL_law_1018 rfl ?_
    refine li_lceq hx hb rfl dL_law_1019 ?_
    refine li_if_eq_t (tgt := 1025) hx hb dL_law_1020 (by decide) (by decide) (by decide) ?_
    refine lv_goto (tgt := 1733) hx hb dL_law_1025 (by decide) ?_
    exact K _ _ _ hP hD hS (lv_sub hl [2, 3, 4, 5, 6] rfl)

set_option maxRecDepth 100000 in
set_option maxHeartbeats 1000000 in
theorem sh_boatsAt {p : Program} {l : Launch} {e : Env} {s : State} {m : MethodId} {below : List Frame} {meth : Method} {c : Code} {H : Heap} {locs : List Loc} {cells slots : Nat} {Q : State → Prop} {ls : Array Slot} {D : va_G} {A : Nat → Prop} {cI cZ cJ : ClassId} {b N : Nat} {xs : Nat → Int32} {i : Int} {S0 M0 O0 : Nat} {wc wc1 wR wM wM1 : va_W} {wM2 : va_W} {k r : Int} {fm fm1 : List Value} (hF : LFx p s m c b N xs D (ty3 cI cZ cJ) A) (hi : 3 ≤ i ∧ i + 3 < (N : Int)) (hN : N ≤ 2051) (hf : cells + 1 ≤ room_1.cells ∧ slots + 6 ≤ room_1.slots) (hk : ib k) (hX : CW l yL_boatsAt wsL_boatsAt 26 [.ref S0, .int (iI (sx xs (i + 1))), .ref O0] D (ty3 cI cZ cJ) wc k wc1) (hM : Di l yX6_boatsAt wsX6_boatsAt 25 [.ref M0, .int (iI (sx xs (i + 1)))] D (ty3 cI cZ cJ) wM r wM1) (hT : Di l yX6_thrown wsX6_thrown 1 [.ref M0] D (ty3 cI cZ cJ) wM1 k wM2) (hm : wM[0]? = some (M0, .inr (6, fm))) (hm1 : wM1[0]? = some (M0, .inr (6, fm1))) (ho : k = 0 → ∃ (q : Nat) (f : Nat → Int64), wc1[q]? = some (O0, .inl (cJ, 1, .inr (.inl f))) ∧ f 0 = (iI r).toInt64) (hP : va_P D vwCl ((wc ++ wR) ++ wM) H) (hD : va_D A ((wc ++ wR) ++ wM)) (hS : va_S A s.heap H locs) (hl : lv_has ls 9 [(0, .ref b), (1, .ref S0), (2, .ref M0), (3, .ref O0), (4, .int (iI i))])
  (K : ∀ (H : Heap) (locs : List Loc) (ls : Array Slot), va_P D vwCl ((wc1 ++ wR) ++ wM2) H → va_D A ((wc1 ++ wR) ++ wM2) → va_S A s.heap H locs → lv_has ls 9 [(0, .ref b), (1, .ref S0), (2, .ref M0), (3, .ref O0), (4, .int (iI i))] → W p l e room_1 s m #[Value.ref b] below meth c H locs (cells + 1) (slots + 6) Q (F0 m 1733 ls [])) :
  W p l e room_1 s m #[Value.ref b] below meth c H locs cells slots Q (F0 m 1028 ls []) := by
  obtain ⟨hx, hb, hml, hts, hown, hXs, hbl, hbA, hA, hK, hNW, hXP, hNC⟩ := hF
  have i_1 := sx_b xs (i + 1)
  rw [List.append_assoc] at hP hD
  refine lv_aload_n hx hb dL_law_1028 rfl (lv_at hl 1 rfl) ?_
  refine lv_aload_n hx hb dL_law_1029 rfl (lv_at hl 0 rfl) ?_
  refine lv_iload hx hb dL_law_1030 (lv_at hl 4 rfl) ?_
  refine li_const hx hb dL_law_1032 ?_
  refine li_add hx hb dL_law_1033 ?_
  refine li_sld hx hb hXs hbl hbA hS (by omega) (by omega) (ib_i (by omega) (by omega)) dL_law_1034 ?_
  refine lv_aload_n hx hb dL_law_1035 rfl (lv_at hl 3 rfl) ?_
  refine cs_p (As := [.ref S0, .int (iI (sx xs (i + 1))), .ref O0]) (rest := []) (hh := [(0, 9, 12, 13)]) ⟨hx, hb, hml, hown, hts⟩ hX (vx_cwSW 3 hts gL_law_L_boatsAt rfl rfl rfl (by decide +kernel) ⟨Nat.le_of_ble_eq_true rfl, Nat.le_of_ble_eq_true rfl⟩) hK hNW hXP hNC hP hD hS hA rfl hl.1 rfl (Nat.le_of_ble_eq_true rfl) dL_law_1036 hf (fun H locs hP hD hS => ?_)
  rw [← List.append_assoc] at hP hD
  have hP := wp_perm (wq_c _ _) hP
  have hD := wd_perm (wq_c _ _) hD
  refine lv_istore (lv' := [(5, .int (iI k)), (0, .ref b), (1, .ref S0), (2, .ref M0), (3, .ref O0), (4, .int (iI i))]) hx hb dL_law_1039 hl (by decide) rfl (fun ls hl => ?_)
  refine lv_aload_n hx hb dL_law_1041 rfl (lv_at hl 3 rfl) ?_
  refine lv_aload_n hx hb dL_law_1042 rfl (lv_at hl 1 rfl) ?_
  refine lv_iload hx hb dL_law_1043 (lv_at hl 5 rfl) ?_
  refine li_const hx hb dL_law_1045 ?_
  refine li_add hx hb dL_law_1046 ?_
  refine li_sld hx hb hXs hbl hbA hS (by omega) (by omega) (ib_i (by omega) (by omega)) dL_law_1047 ?_
  refine cl_p (As := [.int (iI (sx xs (i + 1)))]) (rest := []) (ci := 6) (q0 := 0) ⟨hx, hb, hml, hown, hts⟩ hM (cwV 1 hts gL_law_X6_boatsAt rfl rfl rfl (by decide +kernel) ⟨Nat.le_of_ble_eq_true rfl, Nat.le_of_ble_eq_true rfl⟩) hK hNW hP hD hS hA rfl rfl hm rfl hl.1 rfl (Nat.le_of_ble_eq_true rfl) dL_law_1048 hf (fun H locs hP hD hS => ?_)
  refine lv_istore (lv' := [(6, .int (iI r)), (5, .int (iI k)), (0, .ref b), (1, .ref S0), (2, .ref M0), (3, .ref O0), (4, .int (iI i))]) hx hb dL_law_1051 hl (by decide) rfl (fun ls hl => ?_)
  refine lv_aload_n hx hb dL_law_1053 rfl (lv_at hl 4 rfl) ?_
  refine cl_p (As := []) (rest := []) (ci := 6) (q0 := 0) ⟨hx, hb, hml, hown, hts⟩ hT (cwV 0 hts gL_law_X6_thrown rfl rfl rfl (by decide +kernel) ⟨Nat.le_of_ble_eq_true rfl, Nat.le_of_ble_eq_true rfl⟩) hK hNW hP hD hS hA rfl rfl hm1 rfl hl.1 rfl (Nat.le_of_ble_eq_true rfl) dL_law_1054 hf (fun H locs hP hD hS => ?_)
  have hP := wp_perm (wq_c _ _) hP
  have hD := wd_perm (wq_c _ _) hD
  refine lv_iload hx hb dL_law_1057 (lv_at hl 1 rfl) ?_
  refine li_icmp_eq_s (tgt := 1064) hx hb dL_law_1059 (by decide) rfl ?_
  refine lv_iload hx hb dL_law_1064 (lv_at hl 1 rfl) ?_
  refine li_if_ne (tgt := 1081) hx hb dL_law_1066 (by decide) hk (fun _ => ?_) (fun c_0 => ?_)
  · refine lv_goto (tgt := 1733) hx hb dL_law_1081 (by decide) ?_
    exact K _ _ _ hP hD hS (lv_sub hl [2, 3, 4, 5, 6] rfl)
  · obtain ⟨q, f, hq, hf0⟩ := ho c_0
    refine lv_aload_n hx hb dL_law_1069 rfl (lv_at hl 5 rfl) ?_
    refine li_const hx hb dL_law_1070 ?_
    refine li_lald0 (q0 := q) (t0 := 2) (v := (iI r).toInt64) hx hb hK hP (wg_l (wg_l hq)) rfl hf0 dL_law_1071 ?_
    refine lv_iload hx hb dL_law_1072 (lv_at hl 0 rfl) ?_
    refine lv_i2l (v := (iI r).toInt64) hx hb dL_law_1074 rfl ?_
    refine li_lceq hx hb rfl dL_law_1075 ?_
    refine li_if_eq_t (tgt := 1081) hx hb dL_law_1076 (by decide) (by decide) (by decide) ?_
    refine lv_goto (tgt := 1733) hx hb dL_law_1081 (by decide) ?_
    exact K _ _ _ hP hD hS (lv_sub hl [2, 3, 4, 5, 6] rfl)

set_option maxRecDepth 100000 in
set_option maxHeartbeats 1000000 in
theorem sh_freeLength {p : Program} {l : Launch} {e : Env} {s : State} {m : MethodId} {below : List Frame} {meth : Method} {c : Code} {H : Heap} {locs : List Loc} {cells slots : Nat} {Q : State → Prop} {ls : Array Slot} {D : va_G} {A : Nat → Prop} {cI cZ cJ : ClassId} {b N : Nat} {xs : Nat → Int32} {i : Int} {S0 M0 O0 : Nat} {wc wc1 wR wM wM1 : va_W} {wM2 : va_W} {k r : Int} {fm fm1 : List Value} (hF : LFx p s m c b N xs D (ty3 cI cZ cJ) A) (hi : 3 ≤ i ∧ i + 3 < (N : Int)) (hN : N ≤ 2051) (hf : cells + 1 ≤ room_1.cells ∧ slots + 6 ≤ room_1.slots) (hk : ib k) (hX : CW l yL_freeLength wsL_freeLength 26 [.ref S0, .int (iI (sx xs (i + 1))), .ref O0] D (ty3 cI cZ cJ) wc k wc1) (hM : Di l yX6_freeLength wsX6_freeLength 25 [.ref M0, .int (iI (sx xs (i + 1)))] D (ty3 cI cZ cJ) wM r wM1) (hT : Di l yX6_thrown wsX6_thrown 1 [.ref M0] D (ty3 cI cZ cJ) wM1 k wM2) (hm : wM[0]? = some (M0, .inr (6, fm))) (hm1 : wM1[0]? = some (M0, .inr (6, fm1))) (ho : k = 0 → ∃ (q : Nat) (f : Nat → Int64), wc1[q]? = some (O0, .inl (cJ, 1, .inr (.inl f))) ∧ f 0 = (iI r).toInt64) (hP : va_P D vwCl ((wc ++ wR) ++ wM) H) (hD : va_D A ((wc ++ wR) ++ wM)) (hS : va_S A s.heap H locs) (hl : lv_has ls 9 [(0, .ref b), (1, .ref S0), (2, .ref M0), (3, .ref O0), (4, .int (iI i))])
  (K : ∀ (H : Heap) (locs : List Loc) (ls : Array Slot), va_P D vwCl ((wc1 ++ wR) ++ wM2) H → va_D A ((wc1 ++ wR) ++ wM2) → va_S A s.heap H locs → lv_has ls 9 [(0, .ref b), (1, .ref S0), (2, .ref M0), (3, .ref O0), (4, .int (iI i))] → W p l e room_1 s m #[Value.ref b] below meth c H locs (cells + 1) (slots + 6) Q (F0 m 1733 ls [])) :
  W p l e room_1 s m #[Value.ref b] below meth c H locs cells slots Q (F0 m 1084 ls []) := by
  obtain ⟨hx, hb, hml, hts, hown, hXs, hbl, hbA, hA, hK, hNW, hXP, hNC⟩ := hF
  have i_1 := sx_b xs (i + 1)
  rw [List.append_assoc] at hP hD
  refine lv_aload_n hx hb dL_law_1084 rfl (lv_at hl 1 rfl) ?_
  refine lv_aload_n hx hb dL_law_1085 rfl (lv_at hl 0 rfl) ?_
  refine lv_iload hx hb dL_law_1086 (lv_at hl 4 rfl) ?_
  refine li_const hx hb dL_law_1088 ?_
  refine li_add hx hb dL_law_1089 ?_
  refine li_sld hx hb hXs hbl hbA hS (by omega) (by omega) (ib_i (by omega) (by omega)) dL_law_1090 ?_
  refine lv_aload_n hx hb dL_law_1091 rfl (lv_at hl 3 rfl) ?_
  refine cs_p (As := [.ref S0, .int (iI (sx xs (i + 1))), .ref O0]) (rest := []) (hh := [(0, 9, 12, 13)]) ⟨hx, hb, hml, hown, hts⟩ hX (vx_cwSW 3 hts gL_law_L_freeLength rfl rfl rfl (by decide +kernel) ⟨Nat.le_of_ble_eq_true rfl, Nat.le_of_ble_eq_true rfl⟩) hK hNW hXP hNC hP hD hS hA rfl hl.1 rfl (Nat.le_of_ble_eq_true rfl) dL_law_1092 hf (fun H locs hP hD hS => ?_)
  rw [← List.append_assoc] at hP hD
  have hP := wp_perm (wq_c _ _) hP
  have hD := wd_perm (wq_c _ _) hD
  refine lv_istore (lv' := [(5, .int (iI k)), (0, .ref b), (1, .ref S0), (2, .ref M0), (3, .ref O0), (4, .int (iI i))]) hx hb dL_law_1095 hl (by decide) rfl (fun ls hl => ?_)
  refine lv_aload_n hx hb dL_law_1097 rfl (lv_at hl 3 rfl) ?_
  refine lv_aload_n hx hb dL_law_1098 rfl (lv_at hl 1 rfl) ?_
  refine lv_iload hx hb dL_law_1099 (lv_at hl 5 rfl) ?_
  refine li_const hx hb dL_law_1101 ?_
  refine li_add hx hb dL_law_1102 ?_
  refine li_sld hx hb hXs hbl hbA hS (by omega) (by omega) (ib_i (by omega) (by omega)) dL_law_1103 ?_
  refine cl_p (As := [.int (iI (sx xs (i + 1)))]) (rest := []) (ci := 6) (q0 := 0) ⟨hx, hb, hml, hown, hts⟩ hM (cwV 1 hts gL_law_X6_freeLength rfl rfl rfl (by decide +kernel) ⟨Nat.le_of_ble_eq_true rfl, Nat.le_of_ble_eq_true rfl⟩) hK hNW hP hD hS hA rfl rfl hm rfl hl.1 rfl (Nat.le_of_ble_eq_true rfl) dL_law_1104 hf (fun H locs hP hD hS => ?_)
  refine lv_istore (lv' := [(6, .int (iI r)), (5, .int (iI k)), (0, .ref b), (1, .ref S0), (2, .ref M0), (3, .ref O0), (4, .int (iI i))]) hx hb dL_law_1107 hl (by decide) rfl (fun ls hl => ?_)
  refine lv_aload_n hx hb dL_law_1109 rfl (lv_at hl 4 rfl) ?_
  refine cl_p (As := []) (rest := []) (ci := 6) (q0 := 0) ⟨hx, hb, hml, hown, hts⟩ hT (cwV 0 hts gL_law_X6_thrown rfl rfl rfl (by decide +kernel) ⟨Nat.le_of_ble_eq_true rfl, Nat.le_of_ble_eq_true rfl⟩) hK hNW hP hD hS hA rfl rfl hm1 rfl hl.1 rfl (Nat.le_of_ble_eq_true rfl) dL_law_1110 hf (fun H locs hP hD hS => ?_)
  have hP := wp_perm (wq_c _ _) hP
  have hD := wd_perm (wq_c _ _) hD
  refine lv_iload hx hb dL_law_1113 (lv_at hl 1 rfl) ?_
  refine li_icmp_eq_s (tgt := 1120) hx hb dL_law_1115 (by decide) rfl ?_
  refine lv_iload hx hb dL_law_1120 (lv_at hl 1 rfl) ?_
  refine li_if_ne (tgt := 1137) hx hb dL_law_1122 (by decide) hk (fun _ => ?_) (fun c_0 => ?_)
  · refine lv_goto (tgt := 1733) hx hb dL_law_1137 (by decide) ?_
    exact K _ _ _ hP hD hS (lv_sub hl [2, 3, 4, 5, 6] rfl)
  · obtain ⟨q, f, hq, hf0⟩ := ho c_0
    refine lv_aload_n hx hb dL_law_1125 rfl (lv_at hl 5 rfl) ?_
    refine li_const hx hb dL_law_1126 ?_
    refine li_lald0 (q0 := q) (t0 := 2) (v := (iI r).toInt64) hx hb hK hP (wg_l (wg_l hq)) rfl hf0 dL_law_1127 ?_
    refine lv_iload hx hb dL_law_1128 (lv_at hl 0 rfl) ?_
    refine lv_i2l (v := (iI r).toInt64) hx hb dL_law_1130 rfl ?_
    refine li_lceq hx hb rfl dL_law_1131 ?_
    refine li_if_eq_t (tgt := 1137) hx hb dL_law_1132 (by decide) (by decide) (by decide) ?_
    refine lv_goto (tgt := 1733) hx hb dL_law_1137 (by decide) ?_
    exact K _ _ _ hP hD hS (lv_sub hl [2, 3, 4, 5, 6] rfl)

set_option maxRecDepth 100000 in
set_option maxHeartbeats 1000000 in
theorem sh_moveObstacle {p : Program} {l : Launch} {e : Env} {s : State} {m : MethodId} {below : List Frame} {meth : Method} {c : Code} {H : Heap} {locs : List Loc} {cells slots : Nat} {Q : State → Prop} {ls : Array Slot} {D : va_G} {A : Nat → Prop} {cI cZ cJ : ClassId} {b N : Nat} {xs : Nat → Int32} {i : Int} {S0 M0 O0 : Nat} {wc wc1 wR wM wM1 : va_W} {wM2 : va_W} {k r : Int} {fm fm1 : List Value} (hF : LFx p s m c b N xs D (ty3 cI cZ cJ) A) (hi : 3 ≤ i ∧ i + 3 < (N : Int)) (hN : N ≤ 2051) (hf : cells + 1 ≤ room_1.cells ∧ slots + 6 ≤ room_1.slots) (hk : ib k) (hX : CW l yL_moveObstacle wsL_moveObstacle 26 [.ref S0, .int (iI (sx xs (i + 1))), .int (iI (ub (sx xs (i + 2)))), .ref O0] D (ty3 cI cZ cJ) wc k wc1) (hM : Di l yX6_moveObstacle wsX6_moveObstacle 25 [.ref M0, .int (iI (sx xs (i + 1))), .int (iI (ub (sx xs (i + 2))))] D (ty3 cI cZ cJ) wM r wM1) (hT : Di l yX6_thrown wsX6_thrown 1 [.ref M0] D (ty3 cI cZ cJ) wM1 k wM2) (hm : wM[0]? = some (M0, .inr (6, fm))) (hm1 : wM1[0]? = some (M0, .inr (6, fm1))) (ho : k = 0 → ∃ (q : Nat) (f : Nat → Int64), wc1[q]? = some (O0, .inl (cJ, 1, .inr (.inl f))) ∧ f 0 = (iI r).toInt64) (hP : va_P D vwCl ((wc ++ wR) ++ wM) H) (hD : va_D A ((wc ++ wR) ++ wM)) (hS : va_S A s.heap H locs) (hl : lv_has ls 9 [(0, .ref b), (1, .ref S0), (2, .ref M0), (3, .ref O0), (4, .int (iI i))])
  (K : ∀ (H : Heap) (locs : List Loc) (ls : Array Slot), va_P D vwCl ((wc1 ++ wR) ++ wM2) H → va_D A ((wc1 ++ wR) ++ wM2) → va_S A s.heap H locs → lv_has ls 9 [(0, .ref b), (1, .ref S0), (2, .ref M0), (3, .ref O0), (4, .int (iI i))] → W p l e room_1 s m #[Value.ref b] below meth c H locs (cells + 1) (slots + 6) Q (F0 m 1733 ls [])) :
  W p l e room_1 s m #[Value.ref b] below meth c H locs cells slots Q (F0 m 1140 ls []) := by
  obtain ⟨hx, hb, hml, hts, hown, hXs, hbl, hbA, hA, hK, hNW, hXP, hNC⟩ := hF
  have i_1 := sx_b xs (i + 1)
  have i_2 := sx_b xs (i + 2)
  rw [List.append_assoc] at hP hD
  refine lv_aload_n hx hb dL_law_1140 rfl (lv_at hl 1 rfl) ?_
  refine lv_aload_n hx hb dL_law_1141 rfl (lv_at hl 0 rfl) ?_
  refine lv_iload hx hb dL_law_1142 (lv_at hl 4 rfl) ?_
  refine li_const hx hb dL_law_1144 ?_
  refine li_add hx hb dL_law_1145 ?_
  refine li_sld hx hb hXs hbl hbA hS (by omega) (by omega) (ib_i (by omega) (by omega)) dL_law_1146 ?_
  refine lv_aload_n hx hb dL_law_1147 rfl (lv_at hl 0 rfl) ?_
  refine lv_iload hx hb dL_law_1148 (lv_at hl 4 rfl) ?_
  refine li_const hx hb dL_law_1150 ?_
  refine li_add hx hb dL_law_1151 ?_
  refine li_sld hx hb hXs hbl hbA hS (by omega) (by omega) (ib_i (by omega) (by omega)) dL_law_1152 ?_
  refine li_nz hx hb (ib_i i_2.1 (by omega)) dL_law_1153 dL_law_1156 dL_law_1157 dL_law_1160 ?_
  refine lv_aload_n hx hb dL_law_1161 rfl (lv_at hl 3 rfl) ?_
  refine cs_p (As := [.ref S0, .int (iI (sx xs (i + 1))), .int (iI (ub (sx xs (i + 2)))), .ref O0]) (rest := []) (hh := [(0, 10, 13, 13)]) ⟨hx, hb, hml, hown, hts⟩ hX (vx_cwSW 4 hts gL_law_L_moveObstacle rfl rfl rfl (by decide +kernel) ⟨Nat.le_of_ble_eq_true rfl, Nat.le_of_ble_eq_true rfl⟩) hK hNW hXP hNC hP hD hS hA rfl hl.1 rfl (Nat.le_of_ble_eq_true rfl) dL_law_1162 hf (fun H locs hP hD hS => ?_)
  rw [← List.append_assoc] at hP hD
  have hP := wp_perm (wq_c _ _) hP
  have hD := wd_perm (wq_c _ _) hD
  refine lv_istore (lv' := [(5, .int (iI k)), (0, .ref b), (1, .ref S0), (2, .ref M0), (3, .ref O0), (4, .int (iI i))]) hx hb dL_law_1165 hl (by decide) rfl (fun ls hl => ?_)
  refine lv_aload_n hx hb dL_law_1167 rfl (lv_at hl 3 rfl) ?_
  refine lv_aload_n hx hb dL_law_1168 rfl (lv_at hl 1 rfl) ?_
  refine lv_iload hx hb dL_law_1169 (lv_at hl 5 rfl) ?_
  refine li_const hx hb dL_law_1171 ?_
  refine li_add hx hb dL_law_1172 ?_
  refine li_sld hx hb hXs hbl hbA hS (by omega) (by omega) (ib_i (by omega) (by omega)) dL_law_1173 ?_
  refine lv_aload_n hx hb dL_law_1174 rfl (lv_at hl 1 rfl) ?_
  refine lv_iload hx hb dL_law_1175 (lv_at hl 5 rfl) ?_
  refine li_const hx hb dL_law_1177 ?_
  refine li_add hx hb dL_law_1178 ?_
  refine li_sld hx hb hXs hbl hbA hS (by omega) (by omega) (ib_i (by omega) (by omega)) dL_law_1179 ?_
  refine li_nz hx hb (ib_i i_2.1 (by omega)) dL_law_1180 dL_law_1183 dL_law_1184 dL_law_1187 ?_
  refine cl_p (As := [.int (iI (sx xs (i + 1))), .int (iI (ub (sx xs (i + 2))))]) (rest := []) (ci := 6) (q0 := 0) ⟨hx, hb, hml, hown, hts⟩ hM (cwV 2 hts gL_law_X6_moveObstacle rfl rfl rfl (by decide +kernel) ⟨Nat.le_of_ble_eq_true rfl, Nat.le_of_ble_eq_true rfl⟩) hK hNW hP hD hS hA rfl rfl hm rfl hl.1 rfl (Nat.le_of_ble_eq_true rfl) dL_law_1188 hf (fun H locs hP hD hS => ?_)
  refine lv_istore (lv' := [(6, .int (iI r)), (5, .int (iI k)), (0, .ref b), (1, .ref S0), (2, .ref M0), (3, .ref O0), (4, .int (iI i))]) hx hb dL_law_1191 hl (by decide) rfl (fun ls hl => ?_)
  refine lv_aload_n hx hb dL_law_1193 rfl (lv_at hl 4 rfl) ?_
  refine cl_p (As := []) (rest := []) (ci := 6) (q0 := 0) ⟨hx, hb, hml, hown, hts⟩ hT (cwV 0 hts gL_law_X6_thrown rfl rfl rfl (by decide +kernel) ⟨Nat.le_of_ble_eq_true rfl, Nat.le_of_ble_eq_true rfl⟩) hK hNW hP hD hS hA rfl rfl hm1 rfl hl.1 rfl (Nat.le_of_ble_eq_true rfl) dL_law_1194 hf (fun H locs hP hD hS => ?_)
  have hP := wp_perm (wq_c _ _) hP
  have hD := wd_perm (wq_c _ _) hD
  refine lv_iload hx hb dL_law_1197 (lv_at hl 1 rfl) ?_
  refine li_icmp_eq_s (tgt := 1204) hx hb dL_law_1199 (by decide) rfl ?_
  refine lv_iload hx hb dL_law_1204 (lv_at hl 1 rfl) ?_
  refine li_if_ne (tgt := 1221) hx hb dL_law_1206 (by decide) hk (fun _ => ?_) (fun c_0 => ?_)
  · refine lv_goto (tgt := 1733) hx hb dL_law_1221 (by decide) ?_
    exact K _ _ _ hP hD hS (lv_sub hl [2, 3, 4, 5, 6] rfl)
  · obtain ⟨q, f, hq, hf0⟩ := ho c_0
    refine lv_aload_n hx hb dL_law_1209 rfl (lv_at hl 5 rfl) ?_
    refine li_const hx hb dL_law_1210 ?_
    refine li_lald0 (q0 := q) (t0 := 2) (v := (iI r).toInt64) hx hb hK hP (wg_l (wg_l hq)) rfl hf0 dL_law_1211 ?_
    refine lv_iload hx hb dL_law_1212 (lv_at hl 0 rfl) ?_
    refine lv_i2l (v := (iI r).toInt64) hx hb dL_law_1214 rfl ?_
    refine li_lceq hx hb rfl dL_law_1215 ?_
    refine li_if_eq_t (tgt := 1221) hx hb dL_law_1216 (by decide) (by decide) (by decide) ?_
    refine lv_goto (tgt := 1733) hx hb dL_law_1221 (by decide) ?_
    exact K _ _ _ hP hD hS (lv_sub hl [2, 3, 4, 5, 6] rfl)

set_option maxRecDepth 100000 in
set_option maxHeartbeats 1000000 in
theorem sh_move {p : Program} {l : Launch} {e : Env} {s : State} {m : MethodId} {below : List Frame} {meth : Method} {c : Code} {H : Heap} {locs : List Loc} {cells slots : Nat} {Q : State → Prop} {ls : Array Slot} {D : va_G} {A : Nat → Prop} {cI cZ cJ : ClassId} {b N : Nat} {xs : Nat → Int32} {i : Int} {S0 M0 O0 : Nat} {wc wc1 wR wM wM1 : va_W} {wM2 : va_W} {k r : Int} {fm fm1 : List Value} (hF : LFx p s m c b N xs D (ty3 cI cZ cJ) A) (hi : 3 ≤ i ∧ i + 3 < (N : Int)) (hN : N ≤ 2051) (hf : cells + 1 ≤ room_1.cells ∧ slots + 6 ≤ room_1.slots) (hk : ib k) (hX : CW l yL_move wsL_move 26 [.ref S0, .int (iI (sx xs (i + 1))), .int (iI (ub (sx xs (i + 2)))), .ref O0] D (ty3 cI cZ cJ) wc k wc1) (hM : Di l yX6_move wsX6_move 25 [.ref M0, .int (iI (sx xs (i + 1))), .int (iI (ub (sx xs (i + 2))))] D (ty3 cI cZ cJ) wM r wM1) (hT : Di l yX6_thrown wsX6_thrown 1 [.ref M0] D (ty3 cI cZ cJ) wM1 k wM2) (hm : wM[0]? = some (M0, .inr (6, fm))) (hm1 : wM1[0]? = some (M0, .inr (6, fm1))) (ho : k = 0 → ∃ (q : Nat) (f : Nat → Int64), wc1[q]? = some (O0, .inl (cJ, 1, .inr (.inl f))) ∧ f 0 = (iI r).toInt64) (hP : va_P D vwCl ((wc ++ wR) ++ wM) H) (hD : va_D A ((wc ++ wR) ++ wM)) (hS : va_S A s.heap H locs) (hl : lv_has ls 9 [(0, .ref b), (1, .ref S0), (2, .ref M0), (3, .ref O0), (4, .int (iI i))])
  (K : ∀ (H : Heap) (locs : List Loc) (ls : Array Slot), va_P D vwCl ((wc1 ++ wR) ++ wM2) H → va_D A ((wc1 ++ wR) ++ wM2) → va_S A s.heap H locs → lv_has ls 9 [(0, .ref b), (1, .ref S0), (2, .ref M0), (3, .ref O0), (4, .int (iI i))] → W p l e room_1 s m #[Value.ref b] below meth c H locs (cells + 1) (slots + 6) Q (F0 m 1733 ls [])) :
  W p l e room_1 s m #[Value.ref b] below meth c H locs cells slots Q (F0 m 1224 ls []) := by
  obtain ⟨hx, hb, hml, hts, hown, hXs, hbl, hbA, hA, hK, hNW, hXP, hNC⟩ := hF
  have i_1 := sx_b xs (i + 1)
  have i_2 := sx_b xs (i + 2)
  rw [List.append_assoc] at hP hD
  refine lv_aload_n hx hb dL_law_1224 rfl (lv_at hl 1 rfl) ?_
  refine lv_aload_n hx hb dL_law_1225 rfl (lv_at hl 0 rfl) ?_
  refine lv_iload hx hb dL_law_1226 (lv_at hl 4 rfl) ?_
  refine li_const hx hb dL_law_1228 ?_
  refine li_add hx hb dL_law_1229 ?_
  refine li_sld hx hb hXs hbl hbA hS (by omega) (by omega) (ib_i (by omega) (by omega)) dL_law_1230 ?_
  refine lv_aload_n hx hb dL_law_1231 rfl (lv_at hl 0 rfl) ?_
  refine lv_iload hx hb dL_law_1232 (lv_at hl 4 rfl) ?_
  refine li_const hx hb dL_law_1234 ?_
  refine li_add hx hb dL_law_1235 ?_
  refine li_sld hx hb hXs hbl hbA hS (by omega) (by omega) (ib_i (by omega) (by omega)) dL_law_1236 ?_
  refine li_nz hx hb (ib_i i_2.1 (by omega)) dL_law_1237 dL_law_1240 dL_law_1241 dL_law_1244 ?_
  refine lv_aload_n hx hb dL_law_1245 rfl (lv_at hl 3 rfl) ?_
  refine cs_p (As := [.ref S0, .int (iI (sx xs (i + 1))), .int (iI (ub (sx xs (i + 2)))), .ref O0]) (rest := []) (hh := [(0, 10, 13, 13), (0, 10, 17, 20)]) ⟨hx, hb, hml, hown, hts⟩ hX (vx_cwSW 4 hts gL_law_L_move rfl rfl rfl (by decide +kernel) ⟨Nat.le_of_ble_eq_true rfl, Nat.le_of_ble_eq_true rfl⟩) hK hNW hXP hNC hP hD hS hA rfl hl.1 rfl (Nat.le_of_ble_eq_true rfl) dL_law_1246 hf (fun H locs hP hD hS => ?_)
  rw [← List.append_assoc] at hP hD
  have hP := wp_perm (wq_c _ _) hP
  have hD := wd_perm (wq_c _ _) hD
  refine lv_istore (lv' := [(5, .int (iI k)), (0, .ref b), (1, .ref S0), (2, .ref M0), (3, .ref O0), (4, .int (iI i))]) hx hb dL_law_1249 hl (by decide) rfl (fun ls hl => ?_)
  refine lv_aload_n hx hb dL_law_1251 rfl (lv_at hl 3 rfl) ?_
  refine lv_aload_n hx hb dL_law_1252 rfl (lv_at hl 1 rfl) ?_
  refine lv_iload hx hb dL_law_1253 (lv_at hl 5 rfl) ?_
  refine li_const hx hb dL_law_1255 ?_
  refine li_add hx hb dL_law_1256 ?_
  refine li_sld hx hb hXs hbl hbA hS (by omega) (by omega) (ib_i (by omega) (by omega)) dL_law_1257 ?_
  refine lv_aload_n hx hb dL_law_1258 rfl (lv_at hl 1 rfl) ?_
  refine lv_iload hx hb dL_law_1259 (lv_at hl 5 rfl) ?_
  refine li_const hx hb dL_law_1261 ?_
  refine li_add hx hb dL_law_1262 ?_
  refine li_sld hx hb hXs hbl hbA hS (by omega) (by omega) (ib_i (by omega) (by omega)) dL_law_1263 ?_
  refine li_nz hx hb (ib_i i_2.1 (by omega)) dL_law_1264 dL_law_1267 dL_law_1268 dL_law_1271 ?_
  refine cl_p (As := [.int (iI (sx xs (i + 1))), .int (iI (ub (sx xs (i + 2))))]) (rest := []) (ci := 6) (q0 := 0) ⟨hx, hb, hml, hown, hts⟩ hM (cwV 2 hts gL_law_X6_move rfl rfl rfl (by decide +kernel) ⟨Nat.le_of_ble_eq_true rfl, Nat.le_of_ble_eq_true rfl⟩) hK hNW hP hD hS hA rfl rfl hm rfl hl.1 rfl (Nat.le_of_ble_eq_true rfl) dL_law_1272 hf (fun H locs hP hD hS => ?_)
  refine lv_istore (lv' := [(6, .int (iI r)), (5, .int (iI k)), (0, .ref b), (1, .ref S0), (2, .ref M0), (3, .ref O0), (4, .int (iI i))]) hx hb dL_law_1275 hl (by decide) rfl (fun ls hl => ?_)
  refine lv_aload_n hx hb dL_law_1277 rfl (lv_at hl 4 rfl) ?_
  refine cl_p (As := []) (rest := []) (ci := 6) (q0 := 0) ⟨hx, hb, hml, hown, hts⟩ hT (cwV 0 hts gL_law_X6_thrown rfl rfl rfl (by decide +kernel) ⟨Nat.le_of_ble_eq_true rfl, Nat.le_of_ble_eq_true rfl⟩) hK hNW hP hD hS hA rfl rfl hm1 rfl hl.1 rfl (Nat.le_of_ble_eq_true rfl) dL_law_1278 hf (fun H locs hP hD hS => ?_)
  have hP := wp_perm (wq_c _ _) hP
  have hD := wd_perm (wq_c _ _) hD
  refine lv_iload hx hb dL_law_1281 (lv_at hl 1 rfl) ?_
  refine li_icmp_eq_s (tgt := 1288) hx hb dL_law_1283 (by decide) rfl ?_
  refine lv_iload hx hb dL_law_1288 (lv_at hl 1 rfl) ?_
  refine li_if_ne (tgt := 1305) hx hb dL_law_1290 (by decide) hk (fun _ => ?_) (fun c_0 => ?_)
  · refine lv_goto (tgt := 1733) hx hb dL_law_1305 (by decide) ?_
    exact K _ _ _ hP hD hS (lv_sub hl [2, 3, 4, 5, 6] rfl)
  · obtain ⟨q, f, hq, hf0⟩ := ho c_0
    refine lv_aload_n hx hb dL_law_1293 rfl (lv_at hl 5 rfl) ?_
    refine li_const hx hb dL_law_1294 ?_
    refine li_lald0 (q0 := q) (t0 := 2) (v := (iI r).toInt64) hx hb hK hP (wg_l (wg_l hq)) rfl hf0 dL_law_1295 ?_
    refine lv_iload hx hb dL_law_1296 (lv_at hl 0 rfl) ?_
    refine lv_i2l (v := (iI r).toInt64) hx hb dL_law_1298 rfl ?_
    refine li_lceq hx hb rfl dL_law_1299 ?_
    refine li_if_eq_t (tgt := 1305) hx hb dL_law_1300 (by decide) (by decide) (by decide) ?_
    refine lv_goto (tgt := 1733) hx hb dL_law_1305 (by decide) ?_
    exact K _ _ _ hP hD hS (lv_sub hl [2, 3, 4, 5, 6] rfl)

set_option maxRecDepth 100000 in
set_option maxHeartbeats 1000000 in
theorem sh_take {p : Program} {l : Launch} {e : Env} {s : State} {m : MethodId} {below : List Frame} {meth : Method} {c : Code} {H : Heap} {locs : List Loc} {cells slots : Nat} {Q : State → Prop} {ls : Array Slot} {D : va_G} {A : Nat → Prop} {cI cZ cJ : ClassId} {b N : Nat} {xs : Nat → Int32} {i : Int} {S0 M0 O0 : Nat} {wc wc1 wR wM wM1 : va_W} {wM2 : va_W} {k r : Int} {fm fm1 : List Value} (hF : LFx p s m c b N xs D (ty3 cI cZ cJ) A) (hi : 3 ≤ i ∧ i + 3 < (N : Int)) (hN : N ≤ 2051) (hf : cells + 1 ≤ room_1.cells ∧ slots + 6 ≤ room_1.slots) (hk : ib k) (hX : CW l yL_take wsL_take 26 [.ref S0, .int (iI (sx xs (i + 1))), .int (iI (ub (sx xs (i + 2)))), .ref O0] D (ty3 cI cZ cJ) wc k wc1) (hM : Di l yX6_take wsX6_take 25 [.ref M0, .int (iI (sx xs (i + 1))), .int (iI (ub (sx xs (i + 2))))] D (ty3 cI cZ cJ) wM r wM1) (hT : Di l yX6_thrown wsX6_thrown 1 [.ref M0] D (ty3 cI cZ cJ) wM1 k wM2) (hm : wM[0]? = some (M0, .inr (6, fm))) (hm1 : wM1[0]? = some (M0, .inr (6, fm1))) (ho : k = 0 → ∃ (q : Nat) (f : Nat → Int64), wc1[q]? = some (O0, .inl (cJ, 1, .inr (.inl f))) ∧ f 0 = (iI r).toInt64) (hP : va_P D vwCl ((wc ++ wR) ++ wM) H) (hD : va_D A ((wc ++ wR) ++ wM)) (hS : va_S A s.heap H locs) (hl : lv_has ls 9 [(0, .ref b), (1, .ref S0), (2, .ref M0), (3, .ref O0), (4, .int (iI i))])
  (K : ∀ (H : Heap) (locs : List Loc) (ls : Array Slot), va_P D vwCl ((wc1 ++ wR) ++ wM2) H → va_D A ((wc1 ++ wR) ++ wM2) → va_S A s.heap H locs → lv_has ls 9 [(0, .ref b), (1, .ref S0), (2, .ref M0), (3, .ref O0), (4, .int (iI i))] → W p l e room_1 s m #[Value.ref b] below meth c H locs (cells + 1) (slots + 6) Q (F0 m 1733 ls [])) :
  W p l e room_1 s m #[Value.ref b] below meth c H locs cells slots Q (F0 m 1308 ls []) := by
  obtain ⟨hx, hb, hml, hts, hown, hXs, hbl, hbA, hA, hK, hNW, hXP, hNC⟩ := hF
  have i_1 := sx_b xs (i + 1)
  have i_2 := sx_b xs (i + 2)
  rw [List.append_assoc] at hP hD
  refine lv_aload_n hx hb dL_law_1308 rfl (lv_at hl 1 rfl) ?_
  refine lv_aload_n hx hb dL_law_1309 rfl (lv_at hl 0 rfl) ?_
  refine lv_iload hx hb dL_law_1310 (lv_at hl 4 rfl) ?_
  refine li_const hx hb dL_law_1312 ?_
  refine li_add hx hb dL_law_1313 ?_
  refine li_sld hx hb hXs hbl hbA hS (by omega) (by omega) (ib_i (by omega) (by omega)) dL_law_1314 ?_
  refine lv_aload_n hx hb dL_law_1315 rfl (lv_at hl 0 rfl) ?_
  refine lv_iload hx hb dL_law_1316 (lv_at hl 4 rfl) ?_
  refine li_const hx hb dL_law_1318 ?_
  refine li_add hx hb dL_law_1319 ?_
  refine li_sld hx hb hXs hbl hbA hS (by omega) (by omega) (ib_i (by omega) (by omega)) dL_law_1320 ?_
  refine li_nz hx hb (ib_i i_2.1 (by omega)) dL_law_1321 dL_law_1324 dL_law_1325 dL_law_1328 ?_
  refine lv_aload_n hx hb dL_law_1329 rfl (lv_at hl 3 rfl) ?_
  refine cs_p (As := [.ref S0, .int (iI (sx xs (i + 1))), .int (iI (ub (sx xs (i + 2)))), .ref O0]) (rest := []) (hh := [(0, 10, 13, 13)]) ⟨hx, hb, hml, hown, hts⟩ hX (vx_cwSW 4 hts gL_law_L_take rfl rfl rfl (by decide +kernel) ⟨Nat.le_of_ble_eq_true rfl, Nat.le_of_ble_eq_true rfl⟩) hK hNW hXP hNC hP hD hS hA rfl hl.1 rfl (Nat.le_of_ble_eq_true rfl) dL_law_1330 hf (fun H locs hP hD hS => ?_)
  rw [← List.append_assoc] at hP hD
  have hP := wp_perm (wq_c _ _) hP
  have hD := wd_perm (wq_c _ _) hD
  refine lv_istore (lv' := [(5, .int (iI k)), (0, .ref b), (1, .ref S0), (2, .ref M0), (3, .ref O0), (4, .int (iI i))]) hx hb dL_law_1333 hl (by decide) rfl (fun ls hl => ?_)
  refine lv_aload_n hx hb dL_law_1335 rfl (lv_at hl 3 rfl) ?_
  refine lv_aload_n hx hb dL_law_1336 rfl (lv_at hl 1 rfl) ?_
  refine lv_iload hx hb dL_law_1337 (lv_at hl 5 rfl) ?_
  refine li_const hx hb dL_law_1339 ?_
  refine li_add hx hb dL_law_1340 ?_
  refine li_sld hx hb hXs hbl hbA hS (by omega) (by omega) (ib_i (by omega) (by omega)) dL_law_1341 ?_
  refine lv_aload_n hx hb dL_law_1342 rfl (lv_at hl 1 rfl) ?_
  refine lv_iload hx hb dL_law_1343 (lv_at hl 5 rfl) ?_
  refine li_const hx hb dL_law_1345 ?_
  refine li_add hx hb dL_law_1346 ?_
  refine li_sld hx hb hXs hbl hbA hS (by omega) (by omega) (ib_i (by omega) (by omega)) dL_law_1347 ?_
  refine li_nz hx hb (ib_i i_2.1 (by omega)) dL_law_1348 dL_law_1351 dL_law_1352 dL_law_1355 ?_
  refine cl_p (As := [.int (iI (sx xs (i + 1))), .int (iI (ub (sx xs (i + 2))))]) (rest := []) (ci := 6) (q0 := 0) ⟨hx, hb, hml, hown, hts⟩ hM (cwV 2 hts gL_law_X6_take rfl rfl rfl (by decide +kernel) ⟨Nat.le_of_ble_eq_true rfl, Nat.le_of_ble_eq_true rfl⟩) hK hNW hP hD hS hA rfl rfl hm rfl hl.1 rfl (Nat.le_of_ble_eq_true rfl) dL_law_1356 hf (fun H locs hP hD hS => ?_)
  refine lv_istore (lv' := [(6, .int (iI r)), (5, .int (iI k)), (0, .ref b), (1, .ref S0), (2, .ref M0), (3, .ref O0), (4, .int (iI i))]) hx hb dL_law_1359 hl (by decide) rfl (fun ls hl => ?_)
  refine lv_aload_n hx hb dL_law_1361 rfl (lv_at hl 4 rfl) ?_
  refine cl_p (As := []) (rest := []) (ci := 6) (q0 := 0) ⟨hx, hb, hml, hown, hts⟩ hT (cwV 0 hts gL_law_X6_thrown rfl rfl rfl (by decide +kernel) ⟨Nat.le_of_ble_eq_true rfl, Nat.le_of_ble_eq_true rfl⟩) hK hNW hP hD hS hA rfl rfl hm1 rfl hl.1 rfl (Nat.le_of_ble_eq_true rfl) dL_law_1362 hf (fun H locs hP hD hS => ?_)
  have hP := wp_perm (wq_c _ _) hP
  have hD := wd_perm (wq_c _ _) hD
  refine lv_iload hx hb dL_law_1365 (lv_at hl 1 rfl) ?_
  refine li_icmp_eq_s (tgt := 1372) hx hb dL_law_1367 (by decide) rfl ?_
  refine lv_iload hx hb dL_law_1372 (lv_at hl 1 rfl) ?_
  refine li_if_ne (tgt := 1389) hx hb dL_law_1374 (by decide) hk (fun _ => ?_) (fun c_0 => ?_)
  · refine lv_goto (tgt := 1733) hx hb dL_law_1389 (by decide) ?_
    exact K _ _ _ hP hD hS (lv_sub hl [2, 3, 4, 5, 6] rfl)
  · obtain ⟨q, f, hq, hf0⟩ := ho c_0
    refine lv_aload_n hx hb dL_law_1377 rfl (lv_at hl 5 rfl) ?_
    refine li_const hx hb dL_law_1378 ?_
    refine li_lald0 (q0 := q) (t0 := 2) (v := (iI r).toInt64) hx hb hK hP (wg_l (wg_l hq)) rfl hf0 dL_law_1379 ?_
    refine lv_iload hx hb dL_law_1380 (lv_at hl 0 rfl) ?_
    refine lv_i2l (v := (iI r).toInt64) hx hb dL_law_1382 rfl ?_
    refine li_lceq hx hb rfl dL_law_1383 ?_
    refine li_if_eq_t (tgt := 1389) hx hb dL_law_1384 (by decide) (by decide) (by decide) ?_
    refine lv_goto (tgt := 1733) hx hb dL_law_1389 (by decide) ?_
    exact K _ _ _ hP hD hS (lv_sub hl [2, 3, 4, 5, 6] rfl)

set_option maxRecDepth 100000 in
set_option maxHeartbeats 1000000 in
theorem sh_reportLength {p : Program} {l : Launch} {e : Env} {s : State} {m : MethodId} {below : List Frame} {meth : Method} {c : Code} {H : Heap} {locs : List Loc} {cells slots : Nat} {Q : State → Prop} {ls : Array Slot} {D : va_G} {A : Nat → Prop} {cI cZ cJ : ClassId} {b N : Nat} {xs : Nat → Int32} {i : Int} {S0 M0 O0 : Nat} {wc wc1 wR wM wM1 : va_W} {r r1 : Int} {fx fm : List Value} (hF : LFx p s m c b N xs D (ty3 cI cZ cJ) A) (hi : 3 ≤ i ∧ i + 3 < (N : Int)) (hN : N ≤ 2051) (hf : cells ≤ room_1.cells ∧ slots ≤ room_1.slots) (hX : Di l yX5_reportLength wsX5_reportLength 25 [.ref S0] D (ty3 cI cZ cJ) wc r wc1) (hM : Di l yX6_reportLength wsX6_reportLength 25 [.ref M0] D (ty3 cI cZ cJ) wM r1 wM1) (hrr : r = r1) (hx5 : wc[0]? = some (S0, .inr (5, fx))) (hm : wM[0]? = some (M0, .inr (6, fm))) (hP : va_P D vwCl ((wc ++ wR) ++ wM) H) (hD : va_D A ((wc ++ wR) ++ wM)) (hS : va_S A s.heap H locs) (hl : lv_has ls 9 [(0, .ref b), (1, .ref S0), (2, .ref M0), (3, .ref O0), (4, .int (iI i))])
  (K : ∀ (H : Heap) (locs : List Loc) (ls : Array Slot), va_P D vwCl ((wc1 ++ wR) ++ wM1) H → va_D A ((wc1 ++ wR) ++ wM1) → va_S A s.heap H locs → lv_has ls 9 [(0, .ref b), (1, .ref S0), (2, .ref M0), (3, .ref O0), (4, .int (iI i))] → W p l e room_1 s m #[Value.ref b] below meth c H locs cells slots Q (F0 m 1733 ls [])) :
  W p l e room_1 s m #[Value.ref b] below meth c H locs cells slots Q (F0 m 1392 ls []) := by
  obtain ⟨hx, hb, hml, hts, hown, hXs, hbl, hbA, hA, hK, hNW, hXP, hNC⟩ := hF
  rw [List.append_assoc] at hP hD
  refine lv_aload_n hx hb dL_law_1392 rfl (lv_at hl 1 rfl) ?_
  refine cl_p (As := []) (rest := []) (ci := 5) (q0 := 0) ⟨hx, hb, hml, hown, hts⟩ hX (cwV 0 hts gL_law_X5_reportLength rfl rfl rfl (by decide +kernel) ⟨Nat.le_of_ble_eq_true rfl, Nat.le_of_ble_eq_true rfl⟩) hK hNW hP hD hS hA rfl rfl hx5 rfl hl.1 rfl (Nat.le_of_ble_eq_true rfl) dL_law_1393 hf (fun H locs hP hD hS => ?_)
  rw [← List.append_assoc] at hP hD
  have hP := wp_perm (wq_c _ _) hP
  have hD := wd_perm (wq_c _ _) hD
  refine lv_aload_n hx hb dL_law_1396 rfl (lv_at hl 2 rfl) ?_
  refine cl_p (As := []) (rest := [.int (iI r)]) (ci := 6) (q0 := 0) ⟨hx, hb, hml, hown, hts⟩ hM (cwV 0 hts gL_law_X6_reportLength rfl rfl rfl (by decide +kernel) ⟨Nat.le_of_ble_eq_true rfl, Nat.le_of_ble_eq_true rfl⟩) hK hNW hP hD hS hA rfl rfl hm rfl hl.1 rfl (Nat.le_of_ble_eq_true rfl) dL_law_1397 hf (fun H locs hP hD hS => ?_)
  have hP := wp_perm (wq_c _ _) hP
  have hD := wd_perm (wq_c _ _) hD
  refine li_icmp_eq_s (tgt := 1733) hx hb dL_law_1400 (by decide) hrr ?_
  exact K _ _ _ hP hD hS (lv_sub hl [0, 1, 2, 3, 4] rfl)

set_option maxRecDepth 100000 in
set_option maxHeartbeats 1000000 in
theorem sh_reportKind {p : Program} {l : Launch} {e : Env} {s : State} {m : MethodId} {below : List Frame} {meth : Method} {c : Code} {H : Heap} {locs : List Loc} {cells slots : Nat} {Q : State → Prop} {ls : Array Slot} {D : va_G} {A : Nat → Prop} {cI cZ cJ : ClassId} {b N : Nat} {xs : Nat → Int32} {i : Int} {S0 M0 O0 : Nat} {wc wc1 wR wM wM1 : va_W} {r r1 : Int} {fx fm : List Value} (hF : LFx p s m c b N xs D (ty3 cI cZ cJ) A) (hi : 3 ≤ i ∧ i + 3 < (N : Int)) (hN : N ≤ 2051) (hf : cells ≤ room_1.cells ∧ slots ≤ room_1.slots) (hX : Di l yX5_reportKind wsX5_reportKind 25 [.ref S0, .int (iI (sx xs (i + 1)))] D (ty3 cI cZ cJ) wc r wc1) (hM : Di l yX6_reportKind wsX6_reportKind 25 [.ref M0, .int (iI (sx xs (i + 1)))] D (ty3 cI cZ cJ) wM r1 wM1) (hrr : r = r1) (hx5 : wc[0]? = some (S0, .inr (5, fx))) (hm : wM[0]? = some (M0, .inr (6, fm))) (hP : va_P D vwCl ((wc ++ wR) ++ wM) H) (hD : va_D A ((wc ++ wR) ++ wM)) (hS : va_S A s.heap H locs) (hl : lv_has ls 9 [(0, .ref b), (1, .ref S0), (2, .ref M0), (3, .ref O0), (4, .int (iI i))])
  (K : ∀ (H : Heap) (locs : List Loc) (ls : Array Slot), va_P D vwCl ((wc1 ++ wR) ++ wM1) H → va_D A ((wc1 ++ wR) ++ wM1) → va_S A s.heap H locs → lv_has ls 9 [(0, .ref b), (1, .ref S0), (2, .ref M0), (3, .ref O0), (4, .int (iI i))] → W p l e room_1 s m #[Value.ref b] below meth c H locs cells slots Q (F0 m 1733 ls [])) :
  W p l e room_1 s m #[Value.ref b] below meth c H locs cells slots Q (F0 m 1405 ls []) := by
  obtain ⟨hx, hb, hml, hts, hown, hXs, hbl, hbA, hA, hK, hNW, hXP, hNC⟩ := hF
  have i_1 := sx_b xs (i + 1)
  rw [List.append_assoc] at hP hD
  refine lv_aload_n hx hb dL_law_1405 rfl (lv_at hl 1 rfl) ?_
  refine lv_aload_n hx hb dL_law_1406 rfl (lv_at hl 0 rfl) ?_
  refine lv_iload hx hb dL_law_1407 (lv_at hl 4 rfl) ?_
  refine li_const hx hb dL_law_1409 ?_
  refine li_add hx hb dL_law_1410 ?_
  refine li_sld hx hb hXs hbl hbA hS (by omega) (by omega) (ib_i (by omega) (by omega)) dL_law_1411 ?_
  refine cl_p (As := [.int (iI (sx xs (i + 1)))]) (rest := []) (ci := 5) (q0 := 0) ⟨hx, hb, hml, hown, hts⟩ hX (cwV 1 hts gL_law_X5_reportKind rfl rfl rfl (by decide +kernel) ⟨Nat.le_of_ble_eq_true rfl, Nat.le_of_ble_eq_true rfl⟩) hK hNW hP hD hS hA rfl rfl hx5 rfl hl.1 rfl (Nat.le_of_ble_eq_true rfl) dL_law_1412 hf (fun H locs hP hD hS => ?_)
  rw [← List.append_assoc] at hP hD
  have hP := wp_perm (wq_c _ _) hP
  have hD := wd_perm (wq_c _ _) hD
  refine lv_aload_n hx hb dL_law_1415 rfl (lv_at hl 2 rfl) ?_
  refine lv_aload_n hx hb dL_law_1416 rfl (lv_at hl 0 rfl) ?_
  refine lv_iload hx hb dL_law_1417 (lv_at hl 4 rfl) ?_
  refine li_const hx hb dL_law_1419 ?_
  refine li_add hx hb dL_law_1420 ?_
  refine li_sld hx hb hXs hbl hbA hS (by omega) (by omega) (ib_i (by omega) (by omega)) dL_law_1421 ?_
  refine cl_p (As := [.int (iI (sx xs (i + 1)))]) (rest := [.int (iI r)]) (ci := 6) (q0 := 0) ⟨hx, hb, hml, hown, hts⟩ hM (cwV 1 hts gL_law_X6_reportKind rfl rfl rfl (by decide +kernel) ⟨Nat.le_of_ble_eq_true rfl, Nat.le_of_ble_eq_true rfl⟩) hK hNW hP hD hS hA rfl rfl hm rfl hl.1 rfl (Nat.le_of_ble_eq_true rfl) dL_law_1422 hf (fun H locs hP hD hS => ?_)
  have hP := wp_perm (wq_c _ _) hP
  have hD := wd_perm (wq_c _ _) hD
  refine li_icmp_eq_s (tgt := 1733) hx hb dL_law_1425 (by decide) hrr ?_
  exact K _ _ _ hP hD hS (lv_sub hl [0, 1, 2, 3, 4] rfl)

set_option maxRecDepth 100000 in
set_option maxHeartbeats 1000000 in
theorem sh_reportNumber {p : Program} {l : Launch} {e : Env} {s : State} {m : MethodId} {below : List Frame} {meth : Method} {c : Code} {H : Heap} {locs : List Loc} {cells slots : Nat} {Q : State → Prop} {ls : Array Slot} {D : va_G} {A : Nat → Prop} {cI cZ cJ : ClassId} {b N : Nat} {xs : Nat → Int32} {i : Int} {S0 M0 O0 : Nat} {wc wc1 wR wM wM1 : va_W} {r r1 : Int} {fx fm : List Value} (hF : LFx p s m c b N xs D (ty3 cI cZ cJ) A) (hi : 3 ≤ i ∧ i + 3 < (N : Int)) (hN : N ≤ 2051) (hf : cells ≤ room_1.cells ∧ slots ≤ room_1.slots) (hX : Di l yX5_reportNumber wsX5_reportNumber 25 [.ref S0, .int (iI (sx xs (i + 1)))] D (ty3 cI cZ cJ) wc r wc1) (hM : Di l yX6_reportNumber wsX6_reportNumber 25 [.ref M0, .int (iI (sx xs (i + 1)))] D (ty3 cI cZ cJ) wM r1 wM1) (hrr : r = r1) (hx5 : wc[0]? = some (S0, .inr (5, fx))) (hm : wM[0]? = some (M0, .inr (6, fm))) (hP : va_P D vwCl ((wc ++ wR) ++ wM) H) (hD : va_D A ((wc ++ wR) ++ wM)) (hS : va_S A s.heap H locs) (hl : lv_has ls 9 [(0, .ref b), (1, .ref S0), (2, .ref M0), (3, .ref O0), (4, .int (iI i))])
  (K : ∀ (H : Heap) (locs : List Loc) (ls : Array Slot), va_P D vwCl ((wc1 ++ wR) ++ wM1) H → va_D A ((wc1 ++ wR) ++ wM1) → va_S A s.heap H locs → lv_has ls 9 [(0, .ref b), (1, .ref S0), (2, .ref M0), (3, .ref O0), (4, .int (iI i))] → W p l e room_1 s m #[Value.ref b] below meth c H locs cells slots Q (F0 m 1733 ls [])) :
  W p l e room_1 s m #[Value.ref b] below meth c H locs cells slots Q (F0 m 1430 ls []) := by
  obtain ⟨hx, hb, hml, hts, hown, hXs, hbl, hbA, hA, hK, hNW, hXP, hNC⟩ := hF
  have i_1 := sx_b xs (i + 1)
  rw [List.append_assoc] at hP hD
  refine lv_aload_n hx hb dL_law_1430 rfl (lv_at hl 1 rfl) ?_
  refine lv_aload_n hx hb dL_law_1431 rfl (lv_at hl 0 rfl) ?_
  refine lv_iload hx hb dL_law_1432 (lv_at hl 4 rfl) ?_
  refine li_const hx hb dL_law_1434 ?_
  refine li_add hx hb dL_law_1435 ?_
  refine li_sld hx hb hXs hbl hbA hS (by omega) (by omega) (ib_i (by omega) (by omega)) dL_law_1436 ?_
  refine cl_p (As := [.int (iI (sx xs (i + 1)))]) (rest := []) (ci := 5) (q0 := 0) ⟨hx, hb, hml, hown, hts⟩ hX (cwV 1 hts gL_law_X5_reportNumber rfl rfl rfl (by decide +kernel) ⟨Nat.le_of_ble_eq_true rfl, Nat.le_of_ble_eq_true rfl⟩) hK hNW hP hD hS hA rfl rfl hx5 rfl hl.1 rfl (Nat.le_of_ble_eq_true rfl) dL_law_1437 hf (fun H locs hP hD hS => ?_)
  rw [← List.append_assoc] at hP hD
  have hP := wp_perm (wq_c _ _) hP
  have hD := wd_perm (wq_c _ _) hD
  refine lv_aload_n hx hb dL_law_1440 rfl (lv_at hl 2 rfl) ?_
  refine lv_aload_n hx hb dL_law_1441 rfl (lv_at hl 0 rfl) ?_
  refine lv_iload hx hb dL_law_1442 (lv_at hl 4 rfl) ?_
  refine li_const hx hb dL_law_1444 ?_
  refine li_add hx hb dL_law_1445 ?_
  refine li_sld hx hb hXs hbl hbA hS (by omega) (by omega) (ib_i (by omega) (by omega)) dL_law_1446 ?_
  refine cl_p (As := [.int (iI (sx xs (i + 1)))]) (rest := [.int (iI r)]) (ci := 6) (q0 := 0) ⟨hx, hb, hml, hown, hts⟩ hM (cwV 1 hts gL_law_X6_reportNumber rfl rfl rfl (by decide +kernel) ⟨Nat.le_of_ble_eq_true rfl, Nat.le_of_ble_eq_true rfl⟩) hK hNW hP hD hS hA rfl rfl hm rfl hl.1 rfl (Nat.le_of_ble_eq_true rfl) dL_law_1447 hf (fun H locs hP hD hS => ?_)
  have hP := wp_perm (wq_c _ _) hP
  have hD := wd_perm (wq_c _ _) hD
  refine li_icmp_eq_s (tgt := 1733) hx hb dL_law_1450 (by decide) hrr ?_
  exact K _ _ _ hP hD hS (lv_sub hl [0, 1, 2, 3, 4] rfl)

set_option maxRecDepth 100000 in
set_option maxHeartbeats 1000000 in
theorem sh_minutesFor {p : Program} {l : Launch} {e : Env} {s : State} {m : MethodId} {below : List Frame} {meth : Method} {c : Code} {H : Heap} {locs : List Loc} {cells slots : Nat} {Q : State → Prop} {ls : Array Slot} {D : va_G} {A : Nat → Prop} {cI cZ cJ : ClassId} {b N : Nat} {xs : Nat → Int32} {i : Int} {S0 M0 O0 : Nat} {wc wc1 wR wM wM1 : va_W} {wM2 : va_W} {k r : Int} {fm fm1 : List Value} (hF : LFx p s m c b N xs D (ty3 cI cZ cJ) A) (hi : 3 ≤ i ∧ i + 3 < (N : Int)) (hN : N ≤ 2051) (hf : cells + 1 ≤ room_1.cells ∧ slots + 6 ≤ room_1.slots) (hk : ib k) (hX : CW l yL_minutesFor wsL_minutesFor 26 [.ref S0, .int (iI (sx xs (i + 1))), .int (iI (ub (sx xs (i + 2)))), .ref O0] D (ty3 cI cZ cJ) wc k wc1) (hM : Di l yX6_minutesFor wsX6_minutesFor 25 [.ref M0, .int (iI (sx xs (i + 1))), .int (iI (ub (sx xs (i + 2))))] D (ty3 cI cZ cJ) wM r wM1) (hT : Di l yX6_thrown wsX6_thrown 1 [.ref M0] D (ty3 cI cZ cJ) wM1 k wM2) (hm : wM[0]? = some (M0, .inr (6, fm))) (hm1 : wM1[0]? = some (M0, .inr (6, fm1))) (ho : k = 0 → ∃ (q : Nat) (f : Nat → Int64), wc1[q]? = some (O0, .inl (cJ, 1, .inr (.inl f))) ∧ f 0 = (iI r).toInt64) (hP : va_P D vwCl ((wc ++ wR) ++ wM) H) (hD : va_D A ((wc ++ wR) ++ wM)) (hS : va_S A s.heap H locs) (hl : lv_has ls 9 [(0, .ref b), (1, .ref S0), (2, .ref M0), (3, .ref O0), (4, .int (iI i))])
  (K : ∀ (H : Heap) (locs : List Loc) (ls : Array Slot), va_P D vwCl ((wc1 ++ wR) ++ wM2) H → va_D A ((wc1 ++ wR) ++ wM2) → va_S A s.heap H locs → lv_has ls 9 [(0, .ref b), (1, .ref S0), (2, .ref M0), (3, .ref O0), (4, .int (iI i))] → W p l e room_1 s m #[Value.ref b] below meth c H locs (cells + 1) (slots + 6) Q (F0 m 1733 ls [])) :
  W p l e room_1 s m #[Value.ref b] below meth c H locs cells slots Q (F0 m 1455 ls []) := by
  obtain ⟨hx, hb, hml, hts, hown, hXs, hbl, hbA, hA, hK, hNW, hXP, hNC⟩ := hF
  have i_1 := sx_b xs (i + 1)
  have i_2 := sx_b xs (i + 2)
  rw [List.append_assoc] at hP hD
  refine lv_aload_n hx hb dL_law_1455 rfl (lv_at hl 1 rfl) ?_
  refine lv_aload_n hx hb dL_law_1456 rfl (lv_at hl 0 rfl) ?_
  refine lv_iload hx hb dL_law_1457 (lv_at hl 4 rfl) ?_
  refine li_const hx hb dL_law_1459 ?_
  refine li_add hx hb dL_law_1460 ?_
  refine li_sld hx hb hXs hbl hbA hS (by omega) (by omega) (ib_i (by omega) (by omega)) dL_law_1461 ?_
  refine lv_aload_n hx hb dL_law_1462 rfl (lv_at hl 0 rfl) ?_
  refine lv_iload hx hb dL_law_1463 (lv_at hl 4 rfl) ?_
  refine li_const hx hb dL_law_1465 ?_
  refine li_add hx hb dL_law_1466 ?_
  refine li_sld hx hb hXs hbl hbA hS (by omega) (by omega) (ib_i (by omega) (by omega)) dL_law_1467 ?_
  refine li_nz hx hb (ib_i i_2.1 (by omega)) dL_law_1468 dL_law_1471 dL_law_1472 dL_law_1475 ?_
  refine lv_aload_n hx hb dL_law_1476 rfl (lv_at hl 3 rfl) ?_
  refine cs_p (As := [.ref S0, .int (iI (sx xs (i + 1))), .int (iI (ub (sx xs (i + 2)))), .ref O0]) (rest := []) (hh := [(0, 10, 13, 13)]) ⟨hx, hb, hml, hown, hts⟩ hX (vx_cwSW 4 hts gL_law_L_minutesFor rfl rfl rfl (by decide +kernel) ⟨Nat.le_of_ble_eq_true rfl, Nat.le_of_ble_eq_true rfl⟩) hK hNW hXP hNC hP hD hS hA rfl hl.1 rfl (Nat.le_of_ble_eq_true rfl) dL_law_1477 hf (fun H locs hP hD hS => ?_)
  rw [← List.append_assoc] at hP hD
  have hP := wp_perm (wq_c _ _) hP
  have hD := wd_perm (wq_c _ _) hD
  refine lv_istore (lv' := [(5, .int (iI k)), (0, .ref b), (1, .ref S0), (2, .ref M0), (3, .ref O0), (4, .int (iI i))]) hx hb dL_law_1480 hl (by decide) rfl (fun ls hl => ?_)
  refine lv_aload_n hx hb dL_law_1482 rfl (lv_at hl 3 rfl) ?_
  refine lv_aload_n hx hb dL_law_1483 rfl (lv_at hl 1 rfl) ?_
  refine lv_iload hx hb dL_law_1484 (lv_at hl 5 rfl) ?_
  refine li_const hx hb dL_law_1486 ?_
  refine li_add hx hb dL_law_1487 ?_
  refine li_sld hx hb hXs hbl hbA hS (by omega) (by omega) (ib_i (by omega) (by omega)) dL_law_1488 ?_
  refine lv_aload_n hx hb dL_law_1489 rfl (lv_at hl 1 rfl) ?_
  refine lv_iload hx hb dL_law_1490 (lv_at hl 5 rfl) ?_
  refine li_const hx hb dL_law_1492 ?_
  refine li_add hx hb dL_law_1493 ?_
  refine li_sld hx hb hXs hbl hbA hS (by omega) (by omega) (ib_i (by omega) (by omega)) dL_law_1494 ?_
  refine li_nz hx hb (ib_i i_2.1 (by omega)) dL_law_1495 dL_law_1498 dL_law_1499 dL_law_1502 ?_
  refine cl_p (As := [.int (iI (sx xs (i + 1))), .int (iI (ub (sx xs (i + 2))))]) (rest := []) (ci := 6) (q0 := 0) ⟨hx, hb, hml, hown, hts⟩ hM (cwV 2 hts gL_law_X6_minutesFor rfl rfl rfl (by decide +kernel) ⟨Nat.le_of_ble_eq_true rfl, Nat.le_of_ble_eq_true rfl⟩) hK hNW hP hD hS hA rfl rfl hm rfl hl.1 rfl (Nat.le_of_ble_eq_true rfl) dL_law_1503 hf (fun H locs hP hD hS => ?_)
  refine lv_istore (lv' := [(6, .int (iI r)), (5, .int (iI k)), (0, .ref b), (1, .ref S0), (2, .ref M0), (3, .ref O0), (4, .int (iI i))]) hx hb dL_law_1506 hl (by decide) rfl (fun ls hl => ?_)
  refine lv_aload_n hx hb dL_law_1508 rfl (lv_at hl 4 rfl) ?_
  refine cl_p (As := []) (rest := []) (ci := 6) (q0 := 0) ⟨hx, hb, hml, hown, hts⟩ hT (cwV 0 hts gL_law_X6_thrown rfl rfl rfl (by decide +kernel) ⟨Nat.le_of_ble_eq_true rfl, Nat.le_of_ble_eq_true rfl⟩) hK hNW hP hD hS hA rfl rfl hm1 rfl hl.1 rfl (Nat.le_of_ble_eq_true rfl) dL_law_1509 hf (fun H locs hP hD hS => ?_)
  have hP := wp_perm (wq_c _ _) hP
  have hD := wd_perm (wq_c _ _) hD
  refine lv_iload hx hb dL_law_1512 (lv_at hl 1 rfl) ?_
  refine li_icmp_eq_s (tgt := 1519) hx hb dL_law_1514 (by decide) rfl ?_
  refine lv_iload hx hb dL_law_1519 (lv_at hl 1 rfl) ?_
  refine li_if_ne (tgt := 1536) hx hb dL_law_1521 (by decide) hk (fun _ => ?_) (fun c_0 => ?_)
  · refine lv_goto (tgt := 1733) hx hb dL_law_1536 (by decide) ?_
    exact K _ _ _ hP hD hS (lv_sub hl [2, 3, 4, 5, 6] rfl)
  · obtain ⟨q, f, hq, hf0⟩ := ho c_0
    refine lv_aload_n hx hb dL_law_1524 rfl (lv_at hl 5 rfl) ?_
    refine li_const hx hb dL_law_1525 ?_
    refine li_lald0 (q0 := q) (t0 := 2) (v := (iI r).toInt64) hx hb hK hP (wg_l (wg_l hq)) rfl hf0 dL_law_1526 ?_
    refine lv_iload hx hb dL_law_1527 (lv_at hl 0 rfl) ?_
    refine lv_i2l (v := (iI r).toInt64) hx hb dL_law_1529 rfl ?_
    refine li_lceq hx hb rfl dL_law_1530 ?_
    refine li_if_eq_t (tgt := 1536) hx hb dL_law_1531 (by decide) (by decide) (by decide) ?_
    refine lv_goto (tgt := 1733) hx hb dL_law_1536 (by decide) ?_
    exact K _ _ _ hP hD hS (lv_sub hl [2, 3, 4, 5, 6] rfl)

set_option maxRecDepth 100000 in
set_option maxHeartbeats 1000000 in
theorem sh_waterFor {p : Program} {l : Launch} {e : Env} {s : State} {m : MethodId} {below : List Frame} {meth : Method} {c : Code} {H : Heap} {locs : List Loc} {cells slots : Nat} {Q : State → Prop} {ls : Array Slot} {D : va_G} {A : Nat → Prop} {cI cZ cJ : ClassId} {b N : Nat} {xs : Nat → Int32} {i : Int} {S0 M0 O0 : Nat} {wc wc1 wR wM wM1 : va_W} {wM2 : va_W} {k r : Int} {fm fm1 : List Value} (hF : LFx p s m c b N xs D (ty3 cI cZ cJ) A) (hi : 3 ≤ i ∧ i + 3 < (N : Int)) (hN : N ≤ 2051) (hf : cells + 1 ≤ room_1.cells ∧ slots + 6 ≤ room_1.slots) (hk : ib k) (hX : CW l yL_waterFor wsL_waterFor 26 [.ref S0, .int (iI (sx xs (i + 1))), .int (iI (ub (sx xs (i + 2)))), .ref O0] D (ty3 cI cZ cJ) wc k wc1) (hM : Di l yX6_waterFor wsX6_waterFor 25 [.ref M0, .int (iI (sx xs (i + 1))), .int (iI (ub (sx xs (i + 2))))] D (ty3 cI cZ cJ) wM r wM1) (hT : Di l yX6_thrown wsX6_thrown 1 [.ref M0] D (ty3 cI cZ cJ) wM1 k wM2) (hm : wM[0]? = some (M0, .inr (6, fm))) (hm1 : wM1[0]? = some (M0, .inr (6, fm1))) (ho : k = 0 → ∃ (q : Nat) (f : Nat → Int64), wc1[q]? = some (O0, .inl (cJ, 1, .inr (.inl f))) ∧ f 0 = (iI r).toInt64) (hP : va_P D vwCl ((wc ++ wR) ++ wM) H) (hD : va_D A ((wc ++ wR) ++ wM)) (hS : va_S A s.heap H locs) (hl : lv_has ls 9 [(0, .ref b), (1, .ref S0), (2, .ref M0), (3, .ref O0), (4, .int (iI i))])
  (K : ∀ (H : Heap) (locs : List Loc) (ls : Array Slot), va_P D vwCl ((wc1 ++ wR) ++ wM2) H → va_D A ((wc1 ++ wR) ++ wM2) → va_S A s.heap H locs → lv_has ls 9 [(0, .ref b), (1, .ref S0), (2, .ref M0), (3, .ref O0), (4, .int (iI i))] → W p l e room_1 s m #[Value.ref b] below meth c H locs (cells + 1) (slots + 6) Q (F0 m 1733 ls [])) :
  W p l e room_1 s m #[Value.ref b] below meth c H locs cells slots Q (F0 m 1539 ls []) := by
  obtain ⟨hx, hb, hml, hts, hown, hXs, hbl, hbA, hA, hK, hNW, hXP, hNC⟩ := hF
  have i_1 := sx_b xs (i + 1)
  have i_2 := sx_b xs (i + 2)
  rw [List.append_assoc] at hP hD
  refine lv_aload_n hx hb dL_law_1539 rfl (lv_at hl 1 rfl) ?_
  refine lv_aload_n hx hb dL_law_1540 rfl (lv_at hl 0 rfl) ?_
  refine lv_iload hx hb dL_law_1541 (lv_at hl 4 rfl) ?_
  refine li_const hx hb dL_law_1543 ?_
  refine li_add hx hb dL_law_1544 ?_
  refine li_sld hx hb hXs hbl hbA hS (by omega) (by omega) (ib_i (by omega) (by omega)) dL_law_1545 ?_
  refine lv_aload_n hx hb dL_law_1546 rfl (lv_at hl 0 rfl) ?_
  refine lv_iload hx hb dL_law_1547 (lv_at hl 4 rfl) ?_
  refine li_const hx hb dL_law_1549 ?_
  refine li_add hx hb dL_law_1550 ?_
  refine li_sld hx hb hXs hbl hbA hS (by omega) (by omega) (ib_i (by omega) (by omega)) dL_law_1551 ?_
  refine li_nz hx hb (ib_i i_2.1 (by omega)) dL_law_1552 dL_law_1555 dL_law_1556 dL_law_1559 ?_
  refine lv_aload_n hx hb dL_law_1560 rfl (lv_at hl 3 rfl) ?_
  refine cs_p (As := [.ref S0, .int (iI (sx xs (i + 1))), .int (iI (ub (sx xs (i + 2)))), .ref O0]) (rest := []) (hh := [(0, 10, 13, 13)]) ⟨hx, hb, hml, hown, hts⟩ hX (vx_cwSW 4 hts gL_law_L_waterFor rfl rfl rfl (by decide +kernel) ⟨Nat.le_of_ble_eq_true rfl, Nat.le_of_ble_eq_true rfl⟩) hK hNW hXP hNC hP hD hS hA rfl hl.1 rfl (Nat.le_of_ble_eq_true rfl) dL_law_1561 hf (fun H locs hP hD hS => ?_)
  rw [← List.append_assoc] at hP hD
  have hP := wp_perm (wq_c _ _) hP
  have hD := wd_perm (wq_c _ _) hD
  refine lv_istore (lv' := [(5, .int (iI k)), (0, .ref b), (1, .ref S0), (2, .ref M0), (3, .ref O0), (4, .int (iI i))]) hx hb dL_law_1564 hl (by decide) rfl (fun ls hl => ?_)
  refine lv_aload_n hx hb dL_law_1566 rfl (lv_at hl 3 rfl) ?_
  refine lv_aload_n hx hb dL_law_1567 rfl (lv_at hl 1 rfl) ?_
  refine lv_iload hx hb dL_law_1568 (lv_at hl 5 rfl) ?_
  refine li_const hx hb dL_law_1570 ?_
  refine li_add hx hb dL_law_1571 ?_
  refine li_sld hx hb hXs hbl hbA hS (by omega) (by omega) (ib_i (by omega) (by omega)) dL_law_1572 ?_
  refine lv_aload_n hx hb dL_law_1573 rfl (lv_at hl 1 rfl) ?_
  refine lv_iload hx hb dL_law_1574 (lv_at hl 5 rfl) ?_
  refine li_const hx hb dL_law_1576 ?_
  refine li_add hx hb dL_law_1577 ?_
  refine li_sld hx hb hXs hbl hbA hS (by omega) (by omega) (ib_i (by omega) (by omega)) dL_law_1578 ?_
  refine li_nz hx hb (ib_i i_2.1 (by omega)) dL_law_1579 dL_law_1582 dL_law_1583 dL_law_1586 ?_
  refine cl_p (As := [.int (iI (sx xs (i + 1))), .int (iI (ub (sx xs (i + 2))))]) (rest := []) (ci := 6) (q0 := 0) ⟨hx, hb, hml, hown, hts⟩ hM (cwV 2 hts gL_law_X6_waterFor rfl rfl rfl (by decide +kernel) ⟨Nat.le_of_ble_eq_true rfl, Nat.le_of_ble_eq_true rfl⟩) hK hNW hP hD hS hA rfl rfl hm rfl hl.1 rfl (Nat.le_of_ble_eq_true rfl) dL_law_1587 hf (fun H locs hP hD hS => ?_)
  refine lv_istore (lv' := [(6, .int (iI r)), (5, .int (iI k)), (0, .ref b), (1, .ref S0), (2, .ref M0), (3, .ref O0), (4, .int (iI i))]) hx hb dL_law_1590 hl (by decide) rfl (fun ls hl => ?_)
  refine lv_aload_n hx hb dL_law_1592 rfl (lv_at hl 4 rfl) ?_
  refine cl_p (As := []) (rest := []) (ci := 6) (q0 := 0) ⟨hx, hb, hml, hown, hts⟩ hT (cwV 0 hts gL_law_X6_thrown rfl rfl rfl (by decide +kernel) ⟨Nat.le_of_ble_eq_true rfl, Nat.le_of_ble_eq_true rfl⟩) hK hNW hP hD hS hA rfl rfl hm1 rfl hl.1 rfl (Nat.le_of_ble_eq_true rfl) dL_law_1593 hf (fun H locs hP hD hS => ?_)
  have hP := wp_perm (wq_c _ _) hP
  have hD := wd_perm (wq_c _ _) hD
  refine lv_iload hx hb dL_law_1596 (lv_at hl 1 rfl) ?_
  refine li_icmp_eq_s (tgt := 1603) hx hb dL_law_1598 (by decide) rfl ?_
  refine lv_iload hx hb dL_law_1603 (lv_at hl 1 rfl) ?_
  refine li_if_ne (tgt := 1620) hx hb dL_law_1605 (by decide) hk (fun _ => ?_) (fun c_0 => ?_)
  · refine lv_goto (tgt := 1733) hx hb dL_law_1620 (by decide) ?_
    exact K _ _ _ hP hD hS (lv_sub hl [2, 3, 4, 5, 6] rfl)
  · obtain ⟨q, f, hq, hf0⟩ := ho c_0
    refine lv_aload_n hx hb dL_law_1608 rfl (lv_at hl 5 rfl) ?_
    refine li_const hx hb dL_law_1609 ?_
    refine li_lald0 (q0 := q) (t0 := 2) (v := (iI r).toInt64) hx hb hK hP (wg_l (wg_l hq)) rfl hf0 dL_law_1610 ?_
    refine lv_iload hx hb dL_law_1611 (lv_at hl 0 rfl) ?_
    refine lv_i2l (v := (iI r).toInt64) hx hb dL_law_1613 rfl ?_
    refine li_lceq hx hb rfl dL_law_1614 ?_
    refine li_if_eq_t (tgt := 1620) hx hb dL_law_1615 (by decide) (by decide) (by decide) ?_
    refine lv_goto (tgt := 1733) hx hb dL_law_1620 (by decide) ?_
    exact K _ _ _ hP hD hS (lv_sub hl [2, 3, 4, 5, 6] rfl)

set_option maxRecDepth 100000 in
set_option maxHeartbeats 1000000 in
theorem sh_lostWater {p : Program} {l : Launch} {e : Env} {s : State} {m : MethodId} {below : List Frame} {meth : Method} {c : Code} {H : Heap} {locs : List Loc} {cells slots : Nat} {Q : State → Prop} {ls : Array Slot} {D : va_G} {A : Nat → Prop} {cI cZ cJ : ClassId} {b N : Nat} {xs : Nat → Int32} {i : Int} {S0 M0 O0 : Nat} {wc wc1 wR wM wM1 : va_W} {r r1 : Int} {fx fm : List Value} (hF : LFx p s m c b N xs D (ty3 cI cZ cJ) A) (hi : 3 ≤ i ∧ i + 3 < (N : Int)) (hN : N ≤ 2051) (hf : cells ≤ room_1.cells ∧ slots ≤ room_1.slots) (hX : Di l yX5_lostWater wsX5_lostWater 25 [.ref S0] D (ty3 cI cZ cJ) wc r wc1) (hM : Di l yX6_lostWater wsX6_lostWater 25 [.ref M0] D (ty3 cI cZ cJ) wM r1 wM1) (hrr : r = r1) (hx5 : wc[0]? = some (S0, .inr (5, fx))) (hm : wM[0]? = some (M0, .inr (6, fm))) (hP : va_P D vwCl ((wc ++ wR) ++ wM) H) (hD : va_D A ((wc ++ wR) ++ wM)) (hS : va_S A s.heap H locs) (hl : lv_has ls 9 [(0, .ref b), (1, .ref S0), (2, .ref M0), (3, .ref O0), (4, .int (iI i))])
  (K : ∀ (H : Heap) (locs : List Loc) (ls : Array Slot), va_P D vwCl ((wc1 ++ wR) ++ wM1) H → va_D A ((wc1 ++ wR) ++ wM1) → va_S A s.heap H locs → lv_has ls 9 [(0, .ref b), (1, .ref S0), (2, .ref M0), (3, .ref O0), (4, .int (iI i))] → W p l e room_1 s m #[Value.ref b] below meth c H locs cells slots Q (F0 m 1733 ls [])) :
  W p l e room_1 s m #[Value.ref b] below meth c H locs cells slots Q (F0 m 1623 ls []) := by
  obtain ⟨hx, hb, hml, hts, hown, hXs, hbl, hbA, hA, hK, hNW, hXP, hNC⟩ := hF
  rw [List.append_assoc] at hP hD
  refine lv_aload_n hx hb dL_law_1623 rfl (lv_at hl 1 rfl) ?_
  refine cl_p (As := []) (rest := []) (ci := 5) (q0 := 0) ⟨hx, hb, hml, hown, hts⟩ hX (cwV 0 hts gL_law_X5_lostWater rfl rfl rfl (by decide +kernel) ⟨Nat.le_of_ble_eq_true rfl, Nat.le_of_ble_eq_true rfl⟩) hK hNW hP hD hS hA rfl rfl hx5 rfl hl.1 rfl (Nat.le_of_ble_eq_true rfl) dL_law_1624 hf (fun H locs hP hD hS => ?_)
  rw [← List.append_assoc] at hP hD
  have hP := wp_perm (wq_c _ _) hP
  have hD := wd_perm (wq_c _ _) hD
  refine lv_aload_n hx hb dL_law_1627 rfl (lv_at hl 2 rfl) ?_
  refine cl_p (As := []) (rest := [.int (iI r)]) (ci := 6) (q0 := 0) ⟨hx, hb, hml, hown, hts⟩ hM (cwV 0 hts gL_law_X6_lostWater rfl rfl rfl (by decide +kernel) ⟨Nat.le_of_ble_eq_true rfl, Nat.le_of_ble_eq_true rfl⟩) hK hNW hP hD hS hA rfl rfl hm rfl hl.1 rfl (Nat.le_of_ble_eq_true rfl) dL_law_1628 hf (fun H locs hP hD hS => ?_)
  have hP := wp_perm (wq_c _ _) hP
  have hD := wd_perm (wq_c _ _) hD
  refine li_icmp_eq_s (tgt := 1733) hx hb dL_law_1631 (by decide) hrr ?_
  exact K _ _ _ hP hD hS (lv_sub hl [0, 1, 2, 3, 4] rfl)

set_option maxRecDepth 100000 in
set_option maxHeartbeats 1000000 in
theorem sh_meanLevel {p : Program} {l : Launch} {e : Env} {s : State} {m : MethodId} {below : List Frame} {meth : Method} {c : Code} {H : Heap} {locs : List Loc} {cells slots : Nat} {Q : State → Prop} {ls : Array Slot} {D : va_G} {A : Nat → Prop} {cI cZ cJ : ClassId} {b N : Nat} {xs : Nat → Int32} {i : Int} {S0 M0 O0 : Nat} {wc wc1 wR wM wM1 : va_W} {d0 : Drawn} {x9 : UInt64} {fx fm : List Value} (hd0 : s.drawn.sameBut d0 lw_cs) (hF : LFx p s m c b N xs D (ty3 cI cZ cJ) A) (hi : 3 ≤ i ∧ i + 3 < (N : Int)) (hN : N ≤ 2051) (hf : cells ≤ room_1.cells ∧ slots ≤ room_1.slots) (hX : CD l yX5_meanLevel wsX5_meanLevel 25 [.ref S0] D (ty3 cI cZ cJ) wc x9 wc1) (hM : CD l yX6_meanLevel wsX6_meanLevel 25 [.ref M0] D (ty3 cI cZ cJ) wM x9 wM1) (hx5 : wc[0]? = some (S0, .inr (5, fx))) (hm : wM[0]? = some (M0, .inr (6, fm))) (hP : va_P D vwCl ((wc ++ wR) ++ wM) H) (hD : va_D A ((wc ++ wR) ++ wM)) (hS : va_S A s.heap H locs) (hl : lv_has ls 9 [(0, .ref b), (1, .ref S0), (2, .ref M0), (3, .ref O0), (4, .int (iI i))])
  (K : ∀ (H : Heap) (locs : List Loc) (ls : Array Slot) (d1 : Drawn), s.drawn.sameBut d1 lw_cs → va_P D vwCl ((wc1 ++ wR) ++ wM1) H → va_D A ((wc1 ++ wR) ++ wM1) → va_S A s.heap H locs → lv_has ls 9 [(0, .ref b), (1, .ref S0), (2, .ref M0), (3, .ref O0), (4, .int (iI i))] → W p l e room_1 (s.setDrawn d1) m #[Value.ref b] below meth c H locs cells slots Q (F0 m 1733 ls [])) :
  W p l e room_1 (s.setDrawn d0) m #[Value.ref b] below meth c H locs cells slots Q (F0 m 1636 ls []) := by
  obtain ⟨hx, hb, hml, hts, hown, hXs, hbl, hbA, hA, hK, hNW, hXP, hNC⟩ := hF
  have hts0 := hts
  have hts := dr_words hts0 d0
  rw [List.append_assoc] at hP hD
  refine lv_aload_n hx hb dL_law_1636 rfl (lv_at hl 1 rfl) ?_
  refine cd_p (As := []) (rest := []) (ci := 5) (q0 := 0) hd0 ⟨hx, hb, hml, hown, hts⟩ hX (cwV 0 hts gL_law_X5_meanLevel rfl rfl rfl (by decide +kernel) ⟨Nat.le_of_ble_eq_true rfl, Nat.le_of_ble_eq_true rfl⟩) hK hNW hP hD hS hA rfl rfl hx5 rfl hl.1 rfl (Nat.le_of_ble_eq_true rfl) dL_law_1637 hf (fun x194 H locs d1 hd halX5 hP hD hS => ?_)
  have hts := dr_words hts0 d1
  rw [← List.append_assoc] at hP hD
  have hP := wp_perm (wq_c _ _) hP
  have hD := wd_perm (wq_c _ _) hD
  refine lv_dstore (lv' := [(5, .double x194), (0, .ref b), (1, .ref S0), (2, .ref M0), (3, .ref O0), (4, .int (iI i))]) hx hb dL_law_1640 hl (by decide) rfl (fun ls hl => ?_)
  refine lv_aload_n hx hb dL_law_1642 rfl (lv_at hl 3 rfl) ?_
  refine cd_p (As := []) (rest := []) (ci := 6) (q0 := 0) hd ⟨hx, hb, hml, hown, hts⟩ hM (cwV 0 hts gL_law_X6_meanLevel rfl rfl rfl (by decide +kernel) ⟨Nat.le_of_ble_eq_true rfl, Nat.le_of_ble_eq_true rfl⟩) hK hNW hP hD hS hA rfl rfl hm rfl hl.1 rfl (Nat.le_of_ble_eq_true rfl) dL_law_1643 hf (fun x198 H locs d1 hd halX6 hP hD hS => ?_)
  have hts := dr_words hts0 d1
  have hP := wp_perm (wq_c _ _) hP
  have hD := wd_perm (wq_c _ _) hD
  refine lv_dstore (lv' := [(7, .double x198), (5, .double x194), (0, .ref b), (1, .ref S0), (2, .ref M0), (3, .ref O0), (4, .int (iI i))]) hx hb dL_law_1646 hl (by decide) rfl (fun ls hl => ?_)
  refine lv_dload hx hb dL_law_1648 (lv_at hl 1 rfl) ?_
  refine lv_dload hx hb dL_law_1650 (lv_at hl 0 rfl) ?_
  have hdal : dal x194 x198 := dal_of halX5 halX6
  refine lv_dcmp hx hb dL_law_1652 ?_
  refine lv_if_eq (tgt := 1674) hx hb dL_law_1653 (by decide) (fun _ => ?_) (fun c_1 => ?_)
  · refine lv_goto (tgt := 1733) hx hb dL_law_1674 (by decide) ?_
    exact K _ _ _ _ hd hP hD hS (lv_sub hl [2, 3, 4, 5, 6] rfl)
  · have h1 : Op.cmpValue (FP.dcmp x194 x194) .l ≠ 0 ∧ Op.cmpValue (FP.dcmp x198 x198) .l ≠ 0 := by
      rcases hdal with h | ⟨h, h2⟩
      · subst h; exact ⟨c_1, c_1⟩
      · rw [dcm_nan h, dcm_nan h2]; exact ⟨by decide, by decide⟩
    refine lv_dload hx hb dL_law_1656 (lv_at hl 1 rfl) ?_
    refine lv_dload hx hb dL_law_1658 (lv_at hl 1 rfl) ?_
    refine lv_dcmp hx hb dL_law_1660 ?_
    refine lv_if_eq (tgt := 1672) hx hb dL_law_1661 (by decide) (fun c_2 => absurd c_2 h1.1) (fun _ => ?_)
    refine lv_dload hx hb dL_law_1664 (lv_at hl 0 rfl) ?_
    refine lv_dload hx hb dL_law_1666 (lv_at hl 0 rfl) ?_
    refine lv_dcmp hx hb dL_law_1668 ?_
    refine lv_if_ne (tgt := 1674) hx hb dL_law_1669 (by decide) (fun _ => ?_) (fun c_3 => absurd c_3 h1.2)
    refine lv_goto (tgt := 1733) hx hb dL_law_1674 (by decide) ?_
    exact K _ _ _ _ hd hP hD hS (lv_sub hl [2, 3, 4, 5, 6] rfl)

set_option maxRecDepth 100000 in
set_option maxHeartbeats 1000000 in
theorem sh_poundPart {p : Program} {l : Launch} {e : Env} {s : State} {m : MethodId} {below : List Frame} {meth : Method} {c : Code} {H : Heap} {locs : List Loc} {cells slots : Nat} {Q : State → Prop} {ls : Array Slot} {D : va_G} {A : Nat → Prop} {cI cZ cJ : ClassId} {b N : Nat} {xs : Nat → Int32} {i : Int} {S0 M0 O0 : Nat} {wc wc1 wR wM wM1 : va_W} {d0 : Drawn} {x9 : UInt32} {fx fm : List Value} (hd0 : s.drawn.sameBut d0 lw_cs) (hF : LFx p s m c b N xs D (ty3 cI cZ cJ) A) (hi : 3 ≤ i ∧ i + 3 < (N : Int)) (hN : N ≤ 2051) (hf : cells ≤ room_1.cells ∧ slots ≤ room_1.slots) (hX : CF l yX5_poundPart wsX5_poundPart 25 [.ref S0] D (ty3 cI cZ cJ) wc x9 wc1) (hM : CF l yX6_poundPart wsX6_poundPart 25 [.ref M0] D (ty3 cI cZ cJ) wM x9 wM1) (hx5 : wc[0]? = some (S0, .inr (5, fx))) (hm : wM[0]? = some (M0, .inr (6, fm))) (hP : va_P D vwCl ((wc ++ wR) ++ wM) H) (hD : va_D A ((wc ++ wR) ++ wM)) (hS : va_S A s.heap H locs) (hl : lv_has ls 9 [(0, .ref b), (1, .ref S0), (2, .ref M0), (3, .ref O0), (4, .int (iI i))])
  (K : ∀ (H : Heap) (locs : List Loc) (ls : Array Slot) (d1 : Drawn), s.drawn.sameBut d1 lw_cs → va_P D vwCl ((wc1 ++ wR) ++ wM1) H → va_D A ((wc1 ++ wR) ++ wM1) → va_S A s.heap H locs → lv_has ls 9 [(0, .ref b), (1, .ref S0), (2, .ref M0), (3, .ref O0), (4, .int (iI i))] → W p l e room_1 (s.setDrawn d1) m #[Value.ref b] below meth c H locs cells slots Q (F0 m 1733 ls [])) :
  W p l e room_1 (s.setDrawn d0) m #[Value.ref b] below meth c H locs cells slots Q (F0 m 1677 ls []) := by
  obtain ⟨hx, hb, hml, hts, hown, hXs, hbl, hbA, hA, hK, hNW, hXP, hNC⟩ := hF
  have hts0 := hts
  have hts := dr_words hts0 d0
  rw [List.append_assoc] at hP hD
  refine lv_aload_n hx hb dL_law_1677 rfl (lv_at hl 1 rfl) ?_
  refine cf_p (As := []) (rest := []) (ci := 5) (q0 := 0) hd0 ⟨hx, hb, hml, hown, hts⟩ hX (cwV 0 hts gL_law_X5_poundPart rfl rfl rfl (by decide +kernel) ⟨Nat.le_of_ble_eq_true rfl, Nat.le_of_ble_eq_true rfl⟩) hK hNW hP hD hS hA rfl rfl hx5 rfl hl.1 rfl (Nat.le_of_ble_eq_true rfl) dL_law_1678 hf (fun x199 H locs d1 hd halX5 hP hD hS => ?_)
  have hts := dr_words hts0 d1
  rw [← List.append_assoc] at hP hD
  have hP := wp_perm (wq_c _ _) hP
  have hD := wd_perm (wq_c _ _) hD
  refine lv_f2d_any hd lw_bits hx hb dL_law_1681 (fun y1681 d1 hal1681 hd => ?_)
  have hts := dr_words hts0 d1
  refine lv_dstore (lv' := [(5, .double y1681), (0, .ref b), (1, .ref S0), (2, .ref M0), (3, .ref O0), (4, .int (iI i))]) hx hb dL_law_1682 hl (by decide) rfl (fun ls hl => ?_)
  refine lv_aload_n hx hb dL_law_1684 rfl (lv_at hl 3 rfl) ?_
  refine cf_p (As := []) (rest := []) (ci := 6) (q0 := 0) hd ⟨hx, hb, hml, hown, hts⟩ hM (cwV 0 hts gL_law_X6_poundPart rfl rfl rfl (by decide +kernel) ⟨Nat.le_of_ble_eq_true rfl, Nat.le_of_ble_eq_true rfl⟩) hK hNW hP hD hS hA rfl rfl hm rfl hl.1 rfl (Nat.le_of_ble_eq_true rfl) dL_law_1685 hf (fun x203 H locs d1 hd halX6 hP hD hS => ?_)
  have hts := dr_words hts0 d1
  have hP := wp_perm (wq_c _ _) hP
  have hD := wd_perm (wq_c _ _) hD
  refine lv_f2d_any hd lw_bits hx hb dL_law_1688 (fun y1688 d1 hal1688 hd => ?_)
  have hts := dr_words hts0 d1
  refine lv_dstore (lv' := [(7, .double y1688), (5, .double y1681), (0, .ref b), (1, .ref S0), (2, .ref M0), (3, .ref O0), (4, .int (iI i))]) hx hb dL_law_1689 hl (by decide) rfl (fun ls hl => ?_)
  refine lv_dload hx hb dL_law_1691 (lv_at hl 1 rfl) ?_
  refine lv_dload hx hb dL_law_1693 (lv_at hl 0 rfl) ?_
  have hdal : dal y1681 y1688 := dal_f halX5 halX6 hal1681 hal1688
  refine lv_dcmp hx hb dL_law_1695 ?_
  refine lv_if_eq (tgt := 1717) hx hb dL_law_1696 (by decide) (fun _ => ?_) (fun c_1 => ?_)
  · refine lv_goto (tgt := 1733) hx hb dL_law_1717 (by decide) ?_
    exact K _ _ _ _ hd hP hD hS (lv_sub hl [2, 3, 4, 5, 6] rfl)
  · have h1 : Op.cmpValue (FP.dcmp y1681 y1681) .l ≠ 0 ∧ Op.cmpValue (FP.dcmp y1688 y1688) .l ≠ 0 := by
      rcases hdal with h | ⟨h, h2⟩
      · subst h; exact ⟨c_1, c_1⟩
      · rw [dcm_nan h, dcm_nan h2]; exact ⟨by decide, by decide⟩
    refine lv_dload hx hb dL_law_1699 (lv_at hl 1 rfl) ?_
    refine lv_dload hx hb dL_law_1701 (lv_at hl 1 rfl) ?_
    refine lv_dcmp hx hb dL_law_1703 ?_
    refine lv_if_eq (tgt := 1715) hx hb dL_law_1704 (by decide) (fun c_2 => absurd c_2 h1.1) (fun _ => ?_)
    refine lv_dload hx hb dL_law_1707 (lv_at hl 0 rfl) ?_
    refine lv_dload hx hb dL_law_1709 (lv_at hl 0 rfl) ?_
    refine lv_dcmp hx hb dL_law_1711 ?_
    refine lv_if_ne (tgt := 1717) hx hb dL_law_1712 (by decide) (fun _ => ?_) (fun c_3 => absurd c_3 h1.2)
    refine lv_goto (tgt := 1733) hx hb dL_law_1717 (by decide) ?_
    exact K _ _ _ _ hd hP hD hS (lv_sub hl [2, 3, 4, 5, 6] rfl)

set_option maxRecDepth 100000 in
set_option maxHeartbeats 1000000 in
theorem sh_isConsistent {p : Program} {l : Launch} {e : Env} {s : State} {m : MethodId} {below : List Frame} {meth : Method} {c : Code} {H : Heap} {locs : List Loc} {cells slots : Nat} {Q : State → Prop} {ls : Array Slot} {D : va_G} {A : Nat → Prop} {cI cZ cJ : ClassId} {b N : Nat} {xs : Nat → Int32} {i : Int} {S0 M0 O0 : Nat} {wc wc1 wR wM wM1 : va_W} {r r1 : Int} {fx fm : List Value} (hF : LFx p s m c b N xs D (ty3 cI cZ cJ) A) (hi : 3 ≤ i ∧ i + 3 < (N : Int)) (hN : N ≤ 2051) (hf : cells ≤ room_1.cells ∧ slots ≤ room_1.slots) (hX : Di l yX5_isConsistent wsX5_isConsistent 25 [.ref S0] D (ty3 cI cZ cJ) wc r wc1) (hM : Di l yX6_isConsistent wsX6_isConsistent 25 [.ref M0] D (ty3 cI cZ cJ) wM r1 wM1) (hrr : r = r1) (hx5 : wc[0]? = some (S0, .inr (5, fx))) (hm : wM[0]? = some (M0, .inr (6, fm))) (hP : va_P D vwCl ((wc ++ wR) ++ wM) H) (hD : va_D A ((wc ++ wR) ++ wM)) (hS : va_S A s.heap H locs) (hl : lv_has ls 9 [(0, .ref b), (1, .ref S0), (2, .ref M0), (3, .ref O0), (4, .int (iI i))])
  (K : ∀ (H : Heap) (locs : List Loc) (ls : Array Slot), va_P D vwCl ((wc1 ++ wR) ++ wM1) H → va_D A ((wc1 ++ wR) ++ wM1) → va_S A s.heap H locs → lv_has ls 9 [(0, .ref b), (1, .ref S0), (2, .ref M0), (3, .ref O0), (4, .int (iI i))] → W p l e room_1 s m #[Value.ref b] below meth c H locs cells slots Q (F0 m 1733 ls [])) :
  W p l e room_1 s m #[Value.ref b] below meth c H locs cells slots Q (F0 m 1720 ls []) := by
  obtain ⟨hx, hb, hml, hts, hown, hXs, hbl, hbA, hA, hK, hNW, hXP, hNC⟩ := hF
  rw [List.append_assoc] at hP hD
  refine lv_aload_n hx hb dL_law_1720 rfl (lv_at hl 1 rfl) ?_
  refine cl_p (As := []) (rest := []) (ci := 5) (q0 := 0) ⟨hx, hb, hml, hown, hts⟩ hX (cwV 0 hts gL_law_X5_isConsistent rfl rfl rfl (by decide +kernel) ⟨Nat.le_of_ble_eq_true rfl, Nat.le_of_ble_eq_true rfl⟩) hK hNW hP hD hS hA rfl rfl hx5 rfl hl.1 rfl (Nat.le_of_ble_eq_true rfl) dL_law_1721 hf (fun H locs hP hD hS => ?_)
  rw [← List.append_assoc] at hP hD
  have hP := wp_perm (wq_c _ _) hP
  have hD := wd_perm (wq_c _ _) hD
  refine lv_aload_n hx hb dL_law_1724 rfl (lv_at hl 2 rfl) ?_
  refine cl_p (As := []) (rest := [.int (iI r)]) (ci := 6) (q0 := 0) ⟨hx, hb, hml, hown, hts⟩ hM (cwV 0 hts gL_law_X6_isConsistent rfl rfl rfl (by decide +kernel) ⟨Nat.le_of_ble_eq_true rfl, Nat.le_of_ble_eq_true rfl⟩) hK hNW hP hD hS hA rfl rfl hm rfl hl.1 rfl (Nat.le_of_ble_eq_true rfl) dL_law_1725 hf (fun H locs hP hD hS => ?_)
  have hP := wp_perm (wq_c _ _) hP
  have hD := wd_perm (wq_c _ _) hD
  refine li_icmp_eq_s (tgt := 1733) hx hb dL_law_1728 (by decide) hrr ?_
  exact K _ _ _ hP hD hS (lv_sub hl [0, 1, 2, 3, 4] rfl)
