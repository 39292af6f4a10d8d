set_option maxRecDepth 100000 in
set_option maxHeartbeats 4000000 in
theorem c_X6_chambers_ok {l : Launch} {D : va_G} {cI cZ cJ : ClassId} (n : Int) (L : Int) (a : Int) (rn : Int) (sp : Int) (cnt : Int) (th : Int) (w : Wt) (op : Int → Int) (tn : Int → Int) (pl : Int → Int) (en : Int) (kd : Int → Int) (nb : Int → Int) (as : Int → Int) (ln : Int → Int) (dr : Int → Int) (M0 M1 M2 M3 M4 : Nat)  : Di l yX6_chambers wsX6_chambers 25 [.ref M0] D (ty3 cI cZ cJ) (cMd cI n L a rn sp cnt th (rowF w op tn pl en kd nb) as ln dr M0 M1 M2 M3 M4) (n) (cMd cI n L a rn sp cnt 0 (rowF w op tn pl en kd nb) as ln dr M0 M1 M2 M3 M4) := by
  refine ct_i (plainFor_of_name (by decide)) rfl (Nat.le_of_ble_eq_true rfl) ?_
  intro p e s mI args below meth c_0 ls A hx hb hr hml hts hown hlocks hin hA hP hK hD hNW hS hl Q hQ
  have hown : s.vm.findClass RX6 = some mI.cls := hown
  have hl : lv_has ls 1 [(0, .ref M0)] := hl
  have hin_X6 : ∀ w ∈ wsX60, w ∈ wsX6_chambers := by decide +kernel
  have hf_26 := hts (.fieldLink RX6 26 "LockStaircaseModel" "chambers" "I") (by decide +kernel)
  have hf_40 := hts (.fieldLink RX6 40 "LockStaircaseModel" "thrown" "I") (by decide +kernel)
  refine lv_aload_n hx hb dX6_chambers_0 rfl (lv_at hl 0 rfl) ?_
  refine li_const hx hb dX6_chambers_1 ?_
  refine li_put (ci := 6) (v := .int (iI 0)) (ty := .int) (C := RX6) (T := TX6) (N := 11) (q0 := 0) (k := 10) (w2 := cMd cI n L a rn sp cnt 0 (rowF w op tn pl en kd nb) as ln dr M0 M1 M2 M3 M4) hx hb hts hin_X6 tyX6_ok nmX6 hown hK hP hD hS rfl rfl (by decide) hf_40 rfl rfl (by decide +kernel) rfl rfl (Nat.le_of_ble_eq_true rfl) dX6_chambers_2 rfl (fun H locs hP hD hS => ?_)
  refine lv_aload_n hx hb dX6_chambers_5 rfl (lv_at hl 0 rfl) ?_
  refine li_get (ci := 6) (v := .int (iI n)) (C := RX6) (T := TX6) (N := 11) (q0 := 0) (k := 0) hx hb hts hin_X6 hown hK hP rfl rfl (by decide) hf_26 rfl rfl dX6_chambers_6 ?_
  exact li_iret () hx hb hr hlocks hK hP hD hS dX6_chambers_9 hQ rfl (congrArg iI (rfl))

set_option maxRecDepth 100000 in
set_option maxHeartbeats 4000000 in
theorem c_X6_poundLevel_ok {l : Launch} {D : va_G} {cI cZ cJ : ClassId} (n : Int) (L : Int) (a : Int) (rn : Int) (sp : Int) (cnt : Int) (th : Int) (w : Wt) (op : Int → Int) (tn : Int → Int) (pl : Int → Int) (en : Int) (kd : Int → Int) (nb : Int → Int) (as : Int → Int) (ln : Int → Int) (dr : Int → Int) (M0 M1 M2 M3 M4 : Nat) (hn : 1 ≤ n ∧ n ≤ 6) (hL : 5 ≤ L ∧ L ≤ 40) (ha : 1 ≤ a ∧ a ≤ 50) (hw : WI n L a w) : Di l yX6_poundLevel wsX6_poundLevel 25 [.ref M0] D (ty3 cI cZ cJ) (cMd cI n L a rn sp cnt th (rowF w op tn pl en kd nb) as ln dr M0 M1 M2 M3 M4) (lvA n L a w n) (cMd cI n L a rn sp cnt 0 (rowF w op tn pl en kd nb) as ln dr M0 M1 M2 M3 M4) := by
  refine ct_i (plainFor_of_name (by decide)) rfl (Nat.le_of_ble_eq_true rfl) ?_
  intro p e s mI args below meth c_0 ls A hx hb hr hml hts hown hlocks hin hA hP hK hD hNW hS hl Q hQ
  have hown : s.vm.findClass RX6 = some mI.cls := hown
  have hl : lv_has ls 1 [(0, .ref M0)] := hl
  have hin_X6 : ∀ w ∈ wsX60, w ∈ wsX6_poundLevel := by decide +kernel
  have hf_40 := hts (.fieldLink RX6 40 "LockStaircaseModel" "thrown" "I") (by decide +kernel)
  refine lv_aload_n hx hb dX6_poundLevel_0 rfl (lv_at hl 0 rfl) ?_
  refine li_const hx hb dX6_poundLevel_1 ?_
  refine li_put (ci := 6) (v := .int (iI 0)) (ty := .int) (C := RX6) (T := TX6) (N := 11) (q0 := 0) (k := 10) (w2 := cMd cI n L a rn sp cnt 0 (rowF w op tn pl en kd nb) as ln dr M0 M1 M2 M3 M4) hx hb hts hin_X6 tyX6_ok nmX6 hown hK hP hD hS rfl rfl (by decide) hf_40 rfl rfl (by decide +kernel) rfl rfl (Nat.le_of_ble_eq_true rfl) dX6_poundLevel_2 rfl (fun H locs hP hD hS => ?_)
  refine lv_aload_n hx hb dX6_poundLevel_5 rfl (lv_at hl 0 rfl) ?_
  refine cl_i0 (isC := [0, 1, 2, 3, 4]) (isR := []) (isN := [0, 1, 2, 3, 4]) (wr := []) (wn := cMd cI n L a rn sp cnt 0 (rowF w op tn pl en kd nb) as ln dr M0 M1 M2 M3 M4) (As := []) (rest := []) (r := lvA n L a w n) (ci := 6) (q0 := 0) ⟨hx, hb, hml, hown, hts⟩ (c_X6_pound n L a rn sp cnt 0 w op tn pl en kd nb as ln dr M0 M1 M2 M3 M4 (by first | assumption | omega) (by first | assumption | omega) (by first | assumption | omega) (by first | assumption | omega)) (cwV 0 hts gX6_poundLevel_X6_pound rfl rfl rfl (by decide +kernel) ⟨Nat.le_of_ble_eq_true rfl, Nat.le_of_ble_eq_true rfl⟩) hK hNW hP hD hS hA rfl rfl rfl rfl (by decide) rfl rfl rfl rfl rfl rfl hl.1 rfl (Nat.le_of_ble_eq_true rfl) dX6_poundLevel_6 ⟨Nat.zero_le _, Nat.zero_le _⟩ (fun H locs hP hD hS => ?_)
  exact li_iret () hx hb hr hlocks hK hP hD hS dX6_poundLevel_9 hQ rfl (congrArg iI (rfl))

set_option maxRecDepth 100000 in
set_option maxHeartbeats 4000000 in
theorem c_X6_poundDepth_ok {l : Launch} {D : va_G} {cI cZ cJ : ClassId} (n : Int) (L : Int) (a : Int) (rn : Int) (sp : Int) (cnt : Int) (th : Int) (w : Wt) (op : Int → Int) (tn : Int → Int) (pl : Int → Int) (en : Int) (kd : Int → Int) (nb : Int → Int) (as : Int → Int) (ln : Int → Int) (dr : Int → Int) (M0 M1 M2 M3 M4 : Nat) (hn : 1 ≤ n ∧ n ≤ 6) (hL : 5 ≤ L ∧ L ≤ 40) (ha : 1 ≤ a ∧ a ≤ 50) (hw : WI n L a w) : Di l yX6_poundDepth wsX6_poundDepth 25 [.ref M0] D (ty3 cI cZ cJ) (cMd cI n L a rn sp cnt th (rowF w op tn pl en kd nb) as ln dr M0 M1 M2 M3 M4) (w.1 / a) (cMd cI n L a rn sp cnt 0 (rowF w op tn pl en kd nb) as ln dr M0 M1 M2 M3 M4) := by
  refine ct_i (plainFor_of_name (by decide)) rfl (Nat.le_of_ble_eq_true rfl) ?_
  intro p e s mI args below meth c_0 ls A hx hb hr hml hts hown hlocks hin hA hP hK hD hNW hS hl Q hQ
  have hown : s.vm.findClass RX6 = some mI.cls := hown
  have hl : lv_has ls 1 [(0, .ref M0)] := hl
  have hin_X6 : ∀ w ∈ wsX60, w ∈ wsX6_poundDepth := by decide +kernel
  have hf_40 := hts (.fieldLink RX6 40 "LockStaircaseModel" "thrown" "I") (by decide +kernel)
  refine lv_aload_n hx hb dX6_poundDepth_0 rfl (lv_at hl 0 rfl) ?_
  refine li_const hx hb dX6_poundDepth_1 ?_
  refine li_put (ci := 6) (v := .int (iI 0)) (ty := .int) (C := RX6) (T := TX6) (N := 11) (q0 := 0) (k := 10) (w2 := cMd cI n L a rn sp cnt 0 (rowF w op tn pl en kd nb) as ln dr M0 M1 M2 M3 M4) hx hb hts hin_X6 tyX6_ok nmX6 hown hK hP hD hS rfl rfl (by decide) hf_40 rfl rfl (by decide +kernel) rfl rfl (Nat.le_of_ble_eq_true rfl) dX6_poundDepth_2 rfl (fun H locs hP hD hS => ?_)
  refine lv_aload_n hx hb dX6_poundDepth_5 rfl (lv_at hl 0 rfl) ?_
  refine cl_i0 (isC := [0, 1, 2, 3, 4]) (isR := []) (isN := [0, 1, 2, 3, 4]) (wr := []) (wn := cMd cI n L a rn sp cnt 0 (rowF w op tn pl en kd nb) as ln dr M0 M1 M2 M3 M4) (As := []) (rest := []) (r := w.1 / a) (ci := 6) (q0 := 0) ⟨hx, hb, hml, hown, hts⟩ (c_X6_depth n L a rn sp cnt 0 w op tn pl en kd nb as ln dr M0 M1 M2 M3 M4 (by first | assumption | omega) (by first | assumption | omega) (by first | assumption | omega) (by first | assumption | omega)) (cwV 0 hts gX6_poundDepth_X6_depth rfl rfl rfl (by decide +kernel) ⟨Nat.le_of_ble_eq_true rfl, Nat.le_of_ble_eq_true rfl⟩) hK hNW hP hD hS hA rfl rfl rfl rfl (by decide) rfl rfl rfl rfl rfl rfl hl.1 rfl (Nat.le_of_ble_eq_true rfl) dX6_poundDepth_6 ⟨Nat.zero_le _, Nat.zero_le _⟩ (fun H locs hP hD hS => ?_)
  exact li_iret () hx hb hr hlocks hK hP hD hS dX6_poundDepth_9 hQ rfl (congrArg iI (rfl))

set_option maxRecDepth 100000 in
set_option maxHeartbeats 4000000 in
theorem c_X6_poundWater_ok {l : Launch} {D : va_G} {cI cZ cJ : ClassId} (n : Int) (L : Int) (a : Int) (rn : Int) (sp : Int) (cnt : Int) (th : Int) (w : Wt) (op : Int → Int) (tn : Int → Int) (pl : Int → Int) (en : Int) (kd : Int → Int) (nb : Int → Int) (as : Int → Int) (ln : Int → Int) (dr : Int → Int) (M0 M1 M2 M3 M4 : Nat)  : Di l yX6_poundWater wsX6_poundWater 25 [.ref M0] D (ty3 cI cZ cJ) (cMd cI n L a rn sp cnt th (rowF w op tn pl en kd nb) as ln dr M0 M1 M2 M3 M4) (w.1) (cMd cI n L a rn sp cnt 0 (rowF w op tn pl en kd nb) as ln dr M0 M1 M2 M3 M4) := by
  refine ct_i (plainFor_of_name (by decide)) rfl (Nat.le_of_ble_eq_true rfl) ?_
  intro p e s mI args below meth c_0 ls A hx hb hr hml hts hown hlocks hin hA hP hK hD hNW hS hl Q hQ
  have hown : s.vm.findClass RX6 = some mI.cls := hown
  have hl : lv_has ls 1 [(0, .ref M0)] := hl
  have hin_X6 : ∀ w ∈ wsX60, w ∈ wsX6_poundWater := by decide +kernel
  have hf_40 := hts (.fieldLink RX6 40 "LockStaircaseModel" "thrown" "I") (by decide +kernel)
  have hf_9 := hts (.fieldLink RX6 9 "LockStaircaseModel" "row" "[I") (by decide +kernel)
  refine lv_aload_n hx hb dX6_poundWater_0 rfl (lv_at hl 0 rfl) ?_
  refine li_const hx hb dX6_poundWater_1 ?_
  refine li_put (ci := 6) (v := .int (iI 0)) (ty := .int) (C := RX6) (T := TX6) (N := 11) (q0 := 0) (k := 10) (w2 := cMd cI n L a rn sp cnt 0 (rowF w op tn pl en kd nb) as ln dr M0 M1 M2 M3 M4) hx hb hts hin_X6 tyX6_ok nmX6 hown hK hP hD hS rfl rfl (by decide) hf_40 rfl rfl (by decide +kernel) rfl rfl (Nat.le_of_ble_eq_true rfl) dX6_poundWater_2 rfl (fun H locs hP hD hS => ?_)
  refine lv_aload_n hx hb dX6_poundWater_5 rfl (lv_at hl 0 rfl) ?_
  refine li_get (ci := 6) (v := .ref M1) (C := RX6) (T := TX6) (N := 11) (q0 := 0) (k := 5) hx hb hts hin_X6 hown hK hP rfl rfl (by decide) hf_9 rfl rfl dX6_poundWater_6 ?_
  refine li_const hx hb dX6_poundWater_9 ?_
  refine li_iald (q0 := 1) (t0 := 0) (g := (rowF w op tn pl en kd nb)) hx hb hK hP rfl rfl (by omega) (by omega) (by decide) dX6_poundWater_10 ?_
  refine li_top (b := w.1) (rd_W rfl) ?_
  exact li_iret () hx hb hr hlocks hK hP hD hS dX6_poundWater_11 hQ rfl (congrArg iI (rfl))

set_option maxRecDepth 100000 in
set_option maxHeartbeats 4000000 in
theorem c_X6_clock_ok {l : Launch} {D : va_G} {cI cZ cJ : ClassId} (n : Int) (L : Int) (a : Int) (rn : Int) (sp : Int) (cnt : Int) (th : Int) (w : Wt) (op : Int → Int) (tn : Int → Int) (pl : Int → Int) (en : Int) (kd : Int → Int) (nb : Int → Int) (as : Int → Int) (ln : Int → Int) (dr : Int → Int) (M0 M1 M2 M3 M4 : Nat)  : Di l yX6_clock wsX6_clock 25 [.ref M0] D (ty3 cI cZ cJ) (cMd cI n L a rn sp cnt th (rowF w op tn pl en kd nb) as ln dr M0 M1 M2 M3 M4) (w.2.2.1) (cMd cI n L a rn sp cnt 0 (rowF w op tn pl en kd nb) as ln dr M0 M1 M2 M3 M4) := by
  refine ct_i (plainFor_of_name (by decide)) rfl (Nat.le_of_ble_eq_true rfl) ?_
  intro p e s mI args below meth c_0 ls A hx hb hr hml hts hown hlocks hin hA hP hK hD hNW hS hl Q hQ
  have hown : s.vm.findClass RX6 = some mI.cls := hown
  have hl : lv_has ls 1 [(0, .ref M0)] := hl
  have hin_X6 : ∀ w ∈ wsX60, w ∈ wsX6_clock := by decide +kernel
  have hf_40 := hts (.fieldLink RX6 40 "LockStaircaseModel" "thrown" "I") (by decide +kernel)
  have hf_9 := hts (.fieldLink RX6 9 "LockStaircaseModel" "row" "[I") (by decide +kernel)
  refine lv_aload_n hx hb dX6_clock_0 rfl (lv_at hl 0 rfl) ?_
  refine li_const hx hb dX6_clock_1 ?_
  refine li_put (ci := 6) (v := .int (iI 0)) (ty := .int) (C := RX6) (T := TX6) (N := 11) (q0 := 0) (k := 10) (w2 := cMd cI n L a rn sp cnt 0 (rowF w op tn pl en kd nb) as ln dr M0 M1 M2 M3 M4) hx hb hts hin_X6 tyX6_ok nmX6 hown hK hP hD hS rfl rfl (by decide) hf_40 rfl rfl (by decide +kernel) rfl rfl (Nat.le_of_ble_eq_true rfl) dX6_clock_2 rfl (fun H locs hP hD hS => ?_)
  refine lv_aload_n hx hb dX6_clock_5 rfl (lv_at hl 0 rfl) ?_
  refine li_get (ci := 6) (v := .ref M1) (C := RX6) (T := TX6) (N := 11) (q0 := 0) (k := 5) hx hb hts hin_X6 hown hK hP rfl rfl (by decide) hf_9 rfl rfl dX6_clock_6 ?_
  refine li_const hx hb dX6_clock_9 ?_
  refine li_iald (q0 := 1) (t0 := 0) (g := (rowF w op tn pl en kd nb)) hx hb hK hP rfl rfl (by omega) (by omega) (by decide) dX6_clock_10 ?_
  refine li_top (b := w.2.2.1) (rd_T rfl) ?_
  exact li_iret () hx hb hr hlocks hK hP hD hS dX6_clock_11 hQ rfl (congrArg iI (rfl))

set_option maxRecDepth 100000 in
set_option maxHeartbeats 4000000 in
theorem c_X6_boatCount_ok {l : Launch} {D : va_G} {cI cZ cJ : ClassId} (n : Int) (L : Int) (a : Int) (rn : Int) (sp : Int) (cnt : Int) (th : Int) (w : Wt) (op : Int → Int) (tn : Int → Int) (pl : Int → Int) (en : Int) (kd : Int → Int) (nb : Int → Int) (as : Int → Int) (ln : Int → Int) (dr : Int → Int) (M0 M1 M2 M3 M4 : Nat)  : Di l yX6_boatCount wsX6_boatCount 25 [.ref M0] D (ty3 cI cZ cJ) (cMd cI n L a rn sp cnt th (rowF w op tn pl en kd nb) as ln dr M0 M1 M2 M3 M4) (cnt) (cMd cI n L a rn sp cnt 0 (rowF w op tn pl en kd nb) as ln dr M0 M1 M2 M3 M4) := by
  refine ct_i (plainFor_of_name (by decide)) rfl (Nat.le_of_ble_eq_true rfl) ?_
  intro p e s mI args below meth c_0 ls A hx hb hr hml hts hown hlocks hin hA hP hK hD hNW hS hl Q hQ
  have hown : s.vm.findClass RX6 = some mI.cls := hown
  have hl : lv_has ls 1 [(0, .ref M0)] := hl
  have hin_X6 : ∀ w ∈ wsX60, w ∈ wsX6_boatCount := by decide +kernel
  have hf_40 := hts (.fieldLink RX6 40 "LockStaircaseModel" "thrown" "I") (by decide +kernel)
  have hf_56 := hts (.fieldLink RX6 56 "LockStaircaseModel" "boats" "I") (by decide +kernel)
  refine lv_aload_n hx hb dX6_boatCount_0 rfl (lv_at hl 0 rfl) ?_
  refine li_const hx hb dX6_boatCount_1 ?_
  refine li_put (ci := 6) (v := .int (iI 0)) (ty := .int) (C := RX6) (T := TX6) (N := 11) (q0 := 0) (k := 10) (w2 := cMd cI n L a rn sp cnt 0 (rowF w op tn pl en kd nb) as ln dr M0 M1 M2 M3 M4) hx hb hts hin_X6 tyX6_ok nmX6 hown hK hP hD hS rfl rfl (by decide) hf_40 rfl rfl (by decide +kernel) rfl rfl (Nat.le_of_ble_eq_true rfl) dX6_boatCount_2 rfl (fun H locs hP hD hS => ?_)
  refine lv_aload_n hx hb dX6_boatCount_5 rfl (lv_at hl 0 rfl) ?_
  refine li_get (ci := 6) (v := .int (iI cnt)) (C := RX6) (T := TX6) (N := 11) (q0 := 0) (k := 9) hx hb hts hin_X6 hown hK hP rfl rfl (by decide) hf_56 rfl rfl dX6_boatCount_6 ?_
  exact li_iret () hx hb hr hlocks hK hP hD hS dX6_boatCount_9 hQ rfl (congrArg iI (rfl))

set_option maxRecDepth 100000 in
set_option maxHeartbeats 4000000 in
theorem c_X6_reportLength_ok {l : Launch} {D : va_G} {cI cZ cJ : ClassId} (n : Int) (L : Int) (a : Int) (rn : Int) (sp : Int) (cnt : Int) (th : Int) (w : Wt) (op : Int → Int) (tn : Int → Int) (pl : Int → Int) (en : Int) (kd : Int → Int) (nb : Int → Int) (as : Int → Int) (ln : Int → Int) (dr : Int → Int) (M0 M1 M2 M3 M4 : Nat)  : Di l yX6_reportLength wsX6_reportLength 25 [.ref M0] D (ty3 cI cZ cJ) (cMd cI n L a rn sp cnt th (rowF w op tn pl en kd nb) as ln dr M0 M1 M2 M3 M4) (en) (cMd cI n L a rn sp cnt 0 (rowF w op tn pl en kd nb) as ln dr M0 M1 M2 M3 M4) := by
  refine ct_i (plainFor_of_name (by decide)) rfl (Nat.le_of_ble_eq_true rfl) ?_
  intro p e s mI args below meth c_0 ls A hx hb hr hml hts hown hlocks hin hA hP hK hD hNW hS hl Q hQ
  have hown : s.vm.findClass RX6 = some mI.cls := hown
  have hl : lv_has ls 1 [(0, .ref M0)] := hl
  have hin_X6 : ∀ w ∈ wsX60, w ∈ wsX6_reportLength := by decide +kernel
  have hf_40 := hts (.fieldLink RX6 40 "LockStaircaseModel" "thrown" "I") (by decide +kernel)
  have hf_9 := hts (.fieldLink RX6 9 "LockStaircaseModel" "row" "[I") (by decide +kernel)
  refine lv_aload_n hx hb dX6_reportLength_0 rfl (lv_at hl 0 rfl) ?_
  refine li_const hx hb dX6_reportLength_1 ?_
  refine li_put (ci := 6) (v := .int (iI 0)) (ty := .int) (C := RX6) (T := TX6) (N := 11) (q0 := 0) (k := 10) (w2 := cMd cI n L a rn sp cnt 0 (rowF w op tn pl en kd nb) as ln dr M0 M1 M2 M3 M4) hx hb hts hin_X6 tyX6_ok nmX6 hown hK hP hD hS rfl rfl (by decide) hf_40 rfl rfl (by decide +kernel) rfl rfl (Nat.le_of_ble_eq_true rfl) dX6_reportLength_2 rfl (fun H locs hP hD hS => ?_)
  refine lv_aload_n hx hb dX6_reportLength_5 rfl (lv_at hl 0 rfl) ?_
  refine li_get (ci := 6) (v := .ref M1) (C := RX6) (T := TX6) (N := 11) (q0 := 0) (k := 5) hx hb hts hin_X6 hown hK hP rfl rfl (by decide) hf_9 rfl rfl dX6_reportLength_6 ?_
  refine li_bipush hx hb dX6_reportLength_9 (by decide) ?_
  refine li_iald (q0 := 1) (t0 := 0) (g := (rowF w op tn pl en kd nb)) hx hb hK hP rfl rfl (by omega) (by omega) (by decide) dX6_reportLength_11 ?_
  refine li_top (b := en) (rd_e rfl) ?_
  exact li_iret () hx hb hr hlocks hK hP hD hS dX6_reportLength_12 hQ rfl (congrArg iI (rfl))

set_option maxRecDepth 100000 in
set_option maxHeartbeats 4000000 in
theorem c_X6_lostWater_ok {l : Launch} {D : va_G} {cI cZ cJ : ClassId} (n : Int) (L : Int) (a : Int) (rn : Int) (sp : Int) (cnt : Int) (th : Int) (w : Wt) (op : Int → Int) (tn : Int → Int) (pl : Int → Int) (en : Int) (kd : Int → Int) (nb : Int → Int) (as : Int → Int) (ln : Int → Int) (dr : Int → Int) (M0 M1 M2 M3 M4 : Nat)  : Di l yX6_lostWater wsX6_lostWater 25 [.ref M0] D (ty3 cI cZ cJ) (cMd cI n L a rn sp cnt th (rowF w op tn pl en kd nb) as ln dr M0 M1 M2 M3 M4) (w.2.1) (cMd cI n L a rn sp cnt 0 (rowF w op tn pl en kd nb) as ln dr M0 M1 M2 M3 M4) := by
  refine ct_i (plainFor_of_name (by decide)) rfl (Nat.le_of_ble_eq_true rfl) ?_
  intro p e s mI args below meth c_0 ls A hx hb hr hml hts hown hlocks hin hA hP hK hD hNW hS hl Q hQ
  have hown : s.vm.findClass RX6 = some mI.cls := hown
  have hl : lv_has ls 1 [(0, .ref M0)] := hl
  have hin_X6 : ∀ w ∈ wsX60, w ∈ wsX6_lostWater := by decide +kernel
  have hf_40 := hts (.fieldLink RX6 40 "LockStaircaseModel" "thrown" "I") (by decide +kernel)
  have hf_9 := hts (.fieldLink RX6 9 "LockStaircaseModel" "row" "[I") (by decide +kernel)
  refine lv_aload_n hx hb dX6_lostWater_0 rfl (lv_at hl 0 rfl) ?_
  refine li_const hx hb dX6_lostWater_1 ?_
  refine li_put (ci := 6) (v := .int (iI 0)) (ty := .int) (C := RX6) (T := TX6) (N := 11) (q0 := 0) (k := 10) (w2 := cMd cI n L a rn sp cnt 0 (rowF w op tn pl en kd nb) as ln dr M0 M1 M2 M3 M4) hx hb hts hin_X6 tyX6_ok nmX6 hown hK hP hD hS rfl rfl (by decide) hf_40 rfl rfl (by decide +kernel) rfl rfl (Nat.le_of_ble_eq_true rfl) dX6_lostWater_2 rfl (fun H locs hP hD hS => ?_)
  refine lv_aload_n hx hb dX6_lostWater_5 rfl (lv_at hl 0 rfl) ?_
  refine li_get (ci := 6) (v := .ref M1) (C := RX6) (T := TX6) (N := 11) (q0 := 0) (k := 5) hx hb hts hin_X6 hown hK hP rfl rfl (by decide) hf_9 rfl rfl dX6_lostWater_6 ?_
  refine li_const hx hb dX6_lostWater_9 ?_
  refine li_iald (q0 := 1) (t0 := 0) (g := (rowF w op tn pl en kd nb)) hx hb hK hP rfl rfl (by omega) (by omega) (by decide) dX6_lostWater_10 ?_
  refine li_top (b := w.2.1) (rd_Q rfl) ?_
  exact li_iret () hx hb hr hlocks hK hP hD hS dX6_lostWater_11 hQ rfl (congrArg iI (rfl))

set_option maxRecDepth 100000 in
set_option maxHeartbeats 4000000 in
theorem c_X6_levelOf_ok {l : Launch} {D : va_G} {cI cZ cJ : ClassId} (n : Int) (L : Int) (a : Int) (rn : Int) (sp : Int) (cnt : Int) (th : Int) (w : Wt) (op : Int → Int) (tn : Int → Int) (pl : Int → Int) (en : Int) (kd : Int → Int) (nb : Int → Int) (as : Int → Int) (ln : Int → Int) (dr : Int → Int) (M0 M1 M2 M3 M4 : Nat) (x : Int) (hn : 1 ≤ n ∧ n ≤ 6) (hL : 5 ≤ L ∧ L ≤ 40) (ha : 1 ≤ a ∧ a ≤ 50) (i_x : -2147483648 ≤ x ∧ x < 2147483648) (hv : 0 ≤ x ∧ x ≤ n - 1) : Di l yX6_levelOf wsX6_levelOf 25 [.ref M0, .int (iI x)] D (ty3 cI cZ cJ) (cMd cI n L a rn sp cnt th (rowF w op tn pl en kd nb) as ln dr M0 M1 M2 M3 M4) (lvA n L a w x) (cMd cI n L a rn sp cnt 0 (rowF w op tn pl en kd nb) as ln dr M0 M1 M2 M3 M4) := by
  refine ct_i (plainFor_of_name (by decide)) rfl (Nat.le_of_ble_eq_true rfl) ?_
  intro p e s mI args below meth c_0 ls A hx hb hr hml hts hown hlocks hin hA hP hK hD hNW hS hl Q hQ
  have hown : s.vm.findClass RX6 = some mI.cls := hown
  have hl : lv_has ls 2 [(0, .ref M0), (1, .int (iI x))] := hl
  refine lv_aload_n hx hb dX6_levelOf_0 rfl (lv_at hl 0 rfl) ?_
  refine lv_aload_n hx hb dX6_levelOf_1 rfl (lv_at hl 0 rfl) ?_
  refine lv_iload_n hx hb dX6_levelOf_2 rfl (lv_at hl 1 rfl) ?_
  refine cl_i0 (isC := [0, 1, 2, 3, 4]) (isR := []) (isN := [0, 1, 2, 3, 4]) (wr := []) (wn := cMd cI n L a rn sp cnt th (rowF w op tn pl en kd nb) as ln dr M0 M1 M2 M3 M4) (As := [.int (iI x)]) (rest := [.ref M0]) (r := bz (0 ≤ x ∧ x ≤ n - 1)) (ci := 6) (q0 := 0) ⟨hx, hb, hml, hown, hts⟩ (c_X6_isChamber n L a rn sp cnt th w op tn pl en kd nb as ln dr M0 M1 M2 M3 M4 x (by first | assumption | omega) (by first | assumption | omega) (by first | assumption | omega) (by first | assumption | omega)) (cwV 1 hts gX6_levelOf_X6_isChamber rfl rfl rfl (by decide +kernel) ⟨Nat.le_of_ble_eq_true rfl, Nat.le_of_ble_eq_true rfl⟩) hK hNW hP hD hS hA rfl rfl rfl rfl (by decide) rfl rfl rfl rfl rfl rfl hl.1 rfl (Nat.le_of_ble_eq_true rfl) dX6_levelOf_3 ⟨Nat.zero_le _, Nat.zero_le _⟩ (fun H locs hP hD hS => ?_)
  refine li_top (b := 1) (bz_t (by exact hv)) ?_
  refine li_const hx hb dX6_levelOf_6 ?_
  refine li_const hx hb dX6_levelOf_7 ?_
  refine cl_i0 (isC := [0, 1, 2, 3, 4]) (isR := []) (isN := [0, 1, 2, 3, 4]) (wr := []) (wn := cMd cI n L a rn sp cnt (chA 1 1 1) (rowF w op tn pl en kd nb) as ln dr M0 M1 M2 M3 M4) (As := [.int (iI 1), .int (iI 1), .int (iI 1)]) (rest := []) (r := bz (chA 1 1 1 = 0)) (ci := 6) (q0 := 0) ⟨hx, hb, hml, hown, hts⟩ (c_X6_check n L a rn sp cnt th w op tn pl en kd nb as ln dr M0 M1 M2 M3 M4 1 1 1 (by first | decide | exact bz_01 _ | omega) (by first | decide | exact bz_01 _ | omega) (by first | decide | exact bz_01 _ | omega)) (cwV 3 hts gX6_levelOf_X6_check rfl rfl rfl (by decide +kernel) ⟨Nat.le_of_ble_eq_true rfl, Nat.le_of_ble_eq_true rfl⟩) hK hNW hP hD hS hA rfl rfl rfl rfl (by decide) rfl rfl rfl rfl rfl rfl hl.1 rfl (Nat.le_of_ble_eq_true rfl) dX6_levelOf_8 ⟨Nat.zero_le _, Nat.zero_le _⟩ (fun H locs hP hD hS => ?_)
  refine li_top (b := 1) rfl ?_
  refine li_if_eq_f (tgt := 22) hx hb dX6_levelOf_11 (by decide) (by decide) (by decide) ?_
  refine lv_aload_n hx hb dX6_levelOf_14 rfl (lv_at hl 0 rfl) ?_
  refine lv_iload_n hx hb dX6_levelOf_15 rfl (lv_at hl 1 rfl) ?_
  refine cl_i0 (isC := [0, 1, 2, 3, 4]) (isR := []) (isN := [0, 1, 2, 3, 4]) (wr := []) (wn := cMd cI n L a rn sp cnt 0 (rowF w op tn pl en kd nb) as ln dr M0 M1 M2 M3 M4) (As := [.int (iI x)]) (rest := []) (r := x * L + w.2.2.2 x) (ci := 6) (q0 := 0) ⟨hx, hb, hml, hown, hts⟩ (c_X6_level n L a rn sp cnt 0 w op tn pl en kd nb as ln dr M0 M1 M2 M3 M4 x (by first | assumption | omega) (by first | assumption | omega) (by first | assumption | omega) (by first | assumption | omega)) (cwV 1 hts gX6_levelOf_X6_level rfl rfl rfl (by decide +kernel) ⟨Nat.le_of_ble_eq_true rfl, Nat.le_of_ble_eq_true rfl⟩) hK hNW hP hD hS hA rfl rfl rfl rfl (by decide) rfl rfl rfl rfl rfl rfl hl.1 rfl (Nat.le_of_ble_eq_true rfl) dX6_levelOf_16 ⟨Nat.zero_le _, Nat.zero_le _⟩ (fun H locs hP hD hS => ?_)
  refine lv_goto (tgt := 23) hx hb dX6_levelOf_19 (by decide) ?_
  exact li_iret () hx hb hr hlocks hK hP hD hS dX6_levelOf_23 hQ rfl (congrArg iI (by rw [lvA_c (by omega) (by omega)]))

set_option maxRecDepth 100000 in
set_option maxHeartbeats 4000000 in
theorem c_X6_levelOf_no {l : Launch} {D : va_G} {cI cZ cJ : ClassId} (n : Int) (L : Int) (a : Int) (rn : Int) (sp : Int) (cnt : Int) (th : Int) (w : Wt) (op : Int → Int) (tn : Int → Int) (pl : Int → Int) (en : Int) (kd : Int → Int) (nb : Int → Int) (as : Int → Int) (ln : Int → Int) (dr : Int → Int) (M0 M1 M2 M3 M4 : Nat) (x : Int) (hn : 1 ≤ n ∧ n ≤ 6) (hL : 5 ≤ L ∧ L ≤ 40) (ha : 1 ≤ a ∧ a ≤ 50) (i_x : -2147483648 ≤ x ∧ x < 2147483648) (hv : ¬ (0 ≤ x ∧ x ≤ n - 1)) : Di l yX6_levelOf wsX6_levelOf 25 [.ref M0, .int (iI x)] D (ty3 cI cZ cJ) (cMd cI n L a rn sp cnt th (rowF w op tn pl en kd nb) as ln dr M0 M1 M2 M3 M4) (0) (cMd cI n L a rn sp cnt 1 (rowF w op tn pl en kd nb) as ln dr M0 M1 M2 M3 M4) := by
  refine ct_i (plainFor_of_name (by decide)) rfl (Nat.le_of_ble_eq_true rfl) ?_
  intro p e s mI args below meth c_0 ls A hx hb hr hml hts hown hlocks hin hA hP hK hD hNW hS hl Q hQ
  have hown : s.vm.findClass RX6 = some mI.cls := hown
  have hl : lv_has ls 2 [(0, .ref M0), (1, .int (iI x))] := hl
  refine lv_aload_n hx hb dX6_levelOf_0 rfl (lv_at hl 0 rfl) ?_
  refine lv_aload_n hx hb dX6_levelOf_1 rfl (lv_at hl 0 rfl) ?_
  refine lv_iload_n hx hb dX6_levelOf_2 rfl (lv_at hl 1 rfl) ?_
  refine cl_i0 (isC := [0, 1, 2, 3, 4]) (isR := []) (isN := [0, 1, 2, 3, 4]) (wr := []) (wn := cMd cI n L a rn sp cnt th (rowF w op tn pl en kd nb) as ln dr M0 M1 M2 M3 M4) (As := [.int (iI x)]) (rest := [.ref M0]) (r := bz (0 ≤ x ∧ x ≤ n - 1)) (ci := 6) (q0 := 0) ⟨hx, hb, hml, hown, hts⟩ (c_X6_isChamber n L a rn sp cnt th w op tn pl en kd nb as ln dr M0 M1 M2 M3 M4 x (by first | assumption | omega) (by first | assumption | omega) (by first | assumption | omega) (by first | assumption | omega)) (cwV 1 hts gX6_levelOf_X6_isChamber rfl rfl rfl (by decide +kernel) ⟨Nat.le_of_ble_eq_true rfl, Nat.le_of_ble_eq_true rfl⟩) hK hNW hP hD hS hA rfl rfl rfl rfl (by decide) rfl rfl rfl rfl rfl rfl hl.1 rfl (Nat.le_of_ble_eq_true rfl) dX6_levelOf_3 ⟨Nat.zero_le _, Nat.zero_le _⟩ (fun H locs hP hD hS => ?_)
  refine li_top (b := 0) (bz_f (by exact hv)) ?_
  refine li_const hx hb dX6_levelOf_6 ?_
  refine li_const hx hb dX6_levelOf_7 ?_
  refine cl_i0 (isC := [0, 1, 2, 3, 4]) (isR := []) (isN := [0, 1, 2, 3, 4]) (wr := []) (wn := cMd cI n L a rn sp cnt (chA 0 1 1) (rowF w op tn pl en kd nb) as ln dr M0 M1 M2 M3 M4) (As := [.int (iI 0), .int (iI 1), .int (iI 1)]) (rest := []) (r := bz (chA 0 1 1 = 0)) (ci := 6) (q0 := 0) ⟨hx, hb, hml, hown, hts⟩ (c_X6_check n L a rn sp cnt th w op tn pl en kd nb as ln dr M0 M1 M2 M3 M4 0 1 1 (by first | decide | exact bz_01 _ | omega) (by first | decide | exact bz_01 _ | omega) (by first | decide | exact bz_01 _ | omega)) (cwV 3 hts gX6_levelOf_X6_check rfl rfl rfl (by decide +kernel) ⟨Nat.le_of_ble_eq_true rfl, Nat.le_of_ble_eq_true rfl⟩) hK hNW hP hD hS hA rfl rfl rfl rfl (by decide) rfl rfl rfl rfl rfl rfl hl.1 rfl (Nat.le_of_ble_eq_true rfl) dX6_levelOf_8 ⟨Nat.zero_le _, Nat.zero_le _⟩ (fun H locs hP hD hS => ?_)
  refine li_top (b := 0) rfl ?_
  refine li_if_eq_t (tgt := 22) hx hb dX6_levelOf_11 (by decide) (by decide) (by decide) ?_
  refine li_const hx hb dX6_levelOf_22 ?_
  exact li_iret () hx hb hr hlocks hK hP hD hS dX6_levelOf_23 hQ rfl (congrArg iI (rfl))

set_option maxRecDepth 100000 in
set_option maxHeartbeats 4000000 in
theorem c_X6_headAt_ok {l : Launch} {D : va_G} {cI cZ cJ : ClassId} (n : Int) (L : Int) (a : Int) (rn : Int) (sp : Int) (cnt : Int) (th : Int) (w : Wt) (op : Int → Int) (tn : Int → Int) (pl : Int → Int) (en : Int) (kd : Int → Int) (nb : Int → Int) (as : Int → Int) (ln : Int → Int) (dr : Int → Int) (M0 M1 M2 M3 M4 : Nat) (x : Int) (hn : 1 ≤ n ∧ n ≤ 6) (hL : 5 ≤ L ∧ L ≤ 40) (ha : 1 ≤ a ∧ a ≤ 50) (hw : WI n L a w) (i_x : -2147483648 ≤ x ∧ x < 2147483648) (hv : 0 ≤ x ∧ x ≤ n) : Di l yX6_headAt wsX6_headAt 25 [.ref M0, .int (iI x)] D (ty3 cI cZ cJ) (cMd cI n L a rn sp cnt th (rowF w op tn pl en kd nb) as ln dr M0 M1 M2 M3 M4) (hdA n L a w x) (cMd cI n L a rn sp cnt 0 (rowF w op tn pl en kd nb) as ln dr M0 M1 M2 M3 M4) := by
  refine ct_i (plainFor_of_name (by decide)) rfl (Nat.le_of_ble_eq_true rfl) ?_
  intro p e s mI args below meth c_0 ls A hx hb hr hml hts hown hlocks hin hA hP hK hD hNW hS hl Q hQ
  have hown : s.vm.findClass RX6 = some mI.cls := hown
  have hl : lv_has ls 2 [(0, .ref M0), (1, .int (iI x))] := hl
  refine lv_aload_n hx hb dX6_headAt_0 rfl (lv_at hl 0 rfl) ?_
  refine lv_aload_n hx hb dX6_headAt_1 rfl (lv_at hl 0 rfl) ?_
  refine lv_iload_n hx hb dX6_headAt_2 rfl (lv_at hl 1 rfl) ?_
  refine cl_i0 (isC := [0, 1, 2, 3, 4]) (isR := []) (isN := [0, 1, 2, 3, 4]) (wr := []) (wn := cMd cI n L a rn sp cnt th (rowF w op tn pl en kd nb) as ln dr M0 M1 M2 M3 M4) (As := [.int (iI x)]) (rest := [.ref M0]) (r := bz (0 ≤ x ∧ x ≤ n)) (ci := 6) (q0 := 0) ⟨hx, hb, hml, hown, hts⟩ (c_X6_isGate n L a rn sp cnt th w op tn pl en kd nb as ln dr M0 M1 M2 M3 M4 x (by first | assumption | omega) (by first | assumption | omega) (by first | assumption | omega) (by first | assumption | omega)) (cwV 1 hts gX6_headAt_X6_isGate rfl rfl rfl (by decide +kernel) ⟨Nat.le_of_ble_eq_true rfl, Nat.le_of_ble_eq_true rfl⟩) hK hNW hP hD hS hA rfl rfl rfl rfl (by decide) rfl rfl rfl rfl rfl rfl hl.1 rfl (Nat.le_of_ble_eq_true rfl) dX6_headAt_3 ⟨Nat.zero_le _, Nat.zero_le _⟩ (fun H locs hP hD hS => ?_)
  refine li_top (b := 1) (bz_t (by exact hv)) ?_
  refine li_const hx hb dX6_headAt_6 ?_
  refine li_const hx hb dX6_headAt_7 ?_
  refine cl_i0 (isC := [0, 1, 2, 3, 4]) (isR := []) (isN := [0, 1, 2, 3, 4]) (wr := []) (wn := cMd cI n L a rn sp cnt (chA 1 1 1) (rowF w op tn pl en kd nb) as ln dr M0 M1 M2 M3 M4) (As := [.int (iI 1), .int (iI 1), .int (iI 1)]) (rest := []) (r := bz (chA 1 1 1 = 0)) (ci := 6) (q0 := 0) ⟨hx, hb, hml, hown, hts⟩ (c_X6_check n L a rn sp cnt th w op tn pl en kd nb as ln dr M0 M1 M2 M3 M4 1 1 1 (by first | decide | exact bz_01 _ | omega) (by first | decide | exact bz_01 _ | omega) (by first | decide | exact bz_01 _ | omega)) (cwV 3 hts gX6_headAt_X6_check rfl rfl rfl (by decide +kernel) ⟨Nat.le_of_ble_eq_true rfl, Nat.le_of_ble_eq_true rfl⟩) hK hNW hP hD hS hA rfl rfl rfl rfl (by decide) rfl rfl rfl rfl rfl rfl hl.1 rfl (Nat.le_of_ble_eq_true rfl) dX6_headAt_8 ⟨Nat.zero_le _, Nat.zero_le _⟩ (fun H locs hP hD hS => ?_)
  refine li_top (b := 1) rfl ?_
  refine li_if_eq_f (tgt := 22) hx hb dX6_headAt_11 (by decide) (by decide) (by decide) ?_
  refine lv_aload_n hx hb dX6_headAt_14 rfl (lv_at hl 0 rfl) ?_
  refine lv_iload_n hx hb dX6_headAt_15 rfl (lv_at hl 1 rfl) ?_
  refine cl_i0 (isC := [0, 1, 2, 3, 4]) (isR := []) (isN := [0, 1, 2, 3, 4]) (wr := []) (wn := cMd cI n L a rn sp cnt 0 (rowF w op tn pl en kd nb) as ln dr M0 M1 M2 M3 M4) (As := [.int (iI x)]) (rest := []) (r := hdA n L a w x) (ci := 6) (q0 := 0) ⟨hx, hb, hml, hown, hts⟩ (c_X6_head n L a rn sp cnt 0 w op tn pl en kd nb as ln dr M0 M1 M2 M3 M4 x (by first | assumption | omega) (by first | assumption | omega) (by first | assumption | omega) (by first | assumption | omega) (by first | assumption | omega)) (cwV 1 hts gX6_headAt_X6_head rfl rfl rfl (by decide +kernel) ⟨Nat.le_of_ble_eq_true rfl, Nat.le_of_ble_eq_true rfl⟩) hK hNW hP hD hS hA rfl rfl rfl rfl (by decide) rfl rfl rfl rfl rfl rfl hl.1 rfl (Nat.le_of_ble_eq_true rfl) dX6_headAt_16 ⟨Nat.zero_le _, Nat.zero_le _⟩ (fun H locs hP hD hS => ?_)
  refine lv_goto (tgt := 23) hx hb dX6_headAt_19 (by decide) ?_
  exact li_iret () hx hb hr hlocks hK hP hD hS dX6_headAt_23 hQ rfl (congrArg iI (rfl))

set_option maxRecDepth 100000 in
set_option maxHeartbeats 4000000 in
theorem c_X6_headAt_no {l : Launch} {D : va_G} {cI cZ cJ : ClassId} (n : Int) (L : Int) (a : Int) (rn : Int) (sp : Int) (cnt : Int) (th : Int) (w : Wt) (op : Int → Int) (tn : Int → Int) (pl : Int → Int) (en : Int) (kd : Int → Int) (nb : Int → Int) (as : Int → Int) (ln : Int → Int) (dr : Int → Int) (M0 M1 M2 M3 M4 : Nat) (x : Int) (hn : 1 ≤ n ∧ n ≤ 6) (hL : 5 ≤ L ∧ L ≤ 40) (ha : 1 ≤ a ∧ a ≤ 50) (hw : WI n L a w) (i_x : -2147483648 ≤ x ∧ x < 2147483648) (hv : ¬ (0 ≤ x ∧ x ≤ n)) : Di l yX6_headAt wsX6_headAt 25 [.ref M0, .int (iI x)] D (ty3 cI cZ cJ) (cMd cI n L a rn sp cnt th (rowF w op tn pl en kd nb) as ln dr M0 M1 M2 M3 M4) (0) (cMd cI n L a rn sp cnt 1 (rowF w op tn pl en kd nb) as ln dr M0 M1 M2 M3 M4) := by
  refine ct_i (plainFor_of_name (by decide)) rfl (Nat.le_of_ble_eq_true rfl) ?_
  intro p e s mI args below meth c_0 ls A hx hb hr hml hts hown hlocks hin hA hP hK hD hNW hS hl Q hQ
  have hown : s.vm.findClass RX6 = some mI.cls := hown
  have hl : lv_has ls 2 [(0, .ref M0), (1, .int (iI x))] := hl
  refine lv_aload_n hx hb dX6_headAt_0 rfl (lv_at hl 0 rfl) ?_
  refine lv_aload_n hx hb dX6_headAt_1 rfl (lv_at hl 0 rfl) ?_
  refine lv_iload_n hx hb dX6_headAt_2 rfl (lv_at hl 1 rfl) ?_
  refine cl_i0 (isC := [0, 1, 2, 3, 4]) (isR := []) (isN := [0, 1, 2, 3, 4]) (wr := []) (wn := cMd cI n L a rn sp cnt th (rowF w op tn pl en kd nb) as ln dr M0 M1 M2 M3 M4) (As := [.int (iI x)]) (rest := [.ref M0]) (r := bz (0 ≤ x ∧ x ≤ n)) (ci := 6) (q0 := 0) ⟨hx, hb, hml, hown, hts⟩ (c_X6_isGate n L a rn sp cnt th w op tn pl en kd nb as ln dr M0 M1 M2 M3 M4 x (by first | assumption | omega) (by first | assumption | omega) (by first | assumption | omega) (by first | assumption | omega)) (cwV 1 hts gX6_headAt_X6_isGate rfl rfl rfl (by decide +kernel) ⟨Nat.le_of_ble_eq_true rfl, Nat.le_of_ble_eq_true rfl⟩) hK hNW hP hD hS hA rfl rfl rfl rfl (by decide) rfl rfl rfl rfl rfl rfl hl.1 rfl (Nat.le_of_ble_eq_true rfl) dX6_headAt_3 ⟨Nat.zero_le _, Nat.zero_le _⟩ (fun H locs hP hD hS => ?_)
  refine li_top (b := 0) (bz_f (by exact hv)) ?_
  refine li_const hx hb dX6_headAt_6 ?_
  refine li_const hx hb dX6_headAt_7 ?_
  refine cl_i0 (isC := [0, 1, 2, 3, 4]) (isR := []) (isN := [0, 1, 2, 3, 4]) (wr := []) (wn := cMd cI n L a rn sp cnt (chA 0 1 1) (rowF w op tn pl en kd nb) as ln dr M0 M1 M2 M3 M4) (As := [.int (iI 0), .int (iI 1), .int (iI 1)]) (rest := []) (r := bz (chA 0 1 1 = 0)) (ci := 6) (q0 := 0) ⟨hx, hb, hml, hown, hts⟩ (c_X6_check n L a rn sp cnt th w op tn pl en kd nb as ln dr M0 M1 M2 M3 M4 0 1 1 (by first | decide | exact bz_01 _ | omega) (by first | decide | exact bz_01 _ | omega) (by first | decide | exact bz_01 _ | omega)) (cwV 3 hts gX6_headAt_X6_check rfl rfl rfl (by decide +kernel) ⟨Nat.le_of_ble_eq_true rfl, Nat.le_of_ble_eq_true rfl⟩) hK hNW hP hD hS hA rfl rfl rfl rfl (by decide) rfl rfl rfl rfl rfl rfl hl.1 rfl (Nat.le_of_ble_eq_true rfl) dX6_headAt_8 ⟨Nat.zero_le _, Nat.zero_le _⟩ (fun H locs hP hD hS => ?_)
  refine li_top (b := 0) rfl ?_
  refine li_if_eq_t (tgt := 22) hx hb dX6_headAt_11 (by decide) (by decide) (by decide) ?_
  refine li_const hx hb dX6_headAt_22 ?_
  exact li_iret () hx hb hr hlocks hK hP hD hS dX6_headAt_23 hQ rfl (congrArg iI (rfl))

set_option maxRecDepth 100000 in
set_option maxHeartbeats 4000000 in
theorem c_X6_isOpen_ok {l : Launch} {D : va_G} {cI cZ cJ : ClassId} (n : Int) (L : Int) (a : Int) (rn : Int) (sp : Int) (cnt : Int) (th : Int) (w : Wt) (op : Int → Int) (tn : Int → Int) (pl : Int → Int) (en : Int) (kd : Int → Int) (nb : Int → Int) (as : Int → Int) (ln : Int → Int) (dr : Int → Int) (M0 M1 M2 M3 M4 : Nat) (x : Int) (hn : 1 ≤ n ∧ n ≤ 6) (hL : 5 ≤ L ∧ L ≤ 40) (ha : 1 ≤ a ∧ a ≤ 50) (hop : opB op) (hoz : ∀ g, n < g → op g = 0) (i_x : -2147483648 ≤ x ∧ x < 2147483648) (hv : 0 ≤ x ∧ x ≤ n) : Di l yX6_isOpen wsX6_isOpen 25 [.ref M0, .int (iI x)] D (ty3 cI cZ cJ) (cMd cI n L a rn sp cnt th (rowF w op tn pl en kd nb) as ln dr M0 M1 M2 M3 M4) (bz (isO op x = true)) (cMd cI n L a rn sp cnt 0 (rowF w op tn pl en kd nb) as ln dr M0 M1 M2 M3 M4) := by
  refine ct_i (plainFor_of_name (by decide)) rfl (Nat.le_of_ble_eq_true rfl) ?_
  intro p e s mI args below meth c_0 ls A hx hb hr hml hts hown hlocks hin hA hP hK hD hNW hS hl Q hQ
  have hown : s.vm.findClass RX6 = some mI.cls := hown
  have hl : lv_has ls 2 [(0, .ref M0), (1, .int (iI x))] := hl
  refine lv_aload_n hx hb dX6_isOpen_0 rfl (lv_at hl 0 rfl) ?_
  refine lv_aload_n hx hb dX6_isOpen_1 rfl (lv_at hl 0 rfl) ?_
  refine lv_iload_n hx hb dX6_isOpen_2 rfl (lv_at hl 1 rfl) ?_
  refine cl_i0 (isC := [0, 1, 2, 3, 4]) (isR := []) (isN := [0, 1, 2, 3, 4]) (wr := []) (wn := cMd cI n L a rn sp cnt th (rowF w op tn pl en kd nb) as ln dr M0 M1 M2 M3 M4) (As := [.int (iI x)]) (rest := [.ref M0]) (r := bz (0 ≤ x ∧ x ≤ n)) (ci := 6) (q0 := 0) ⟨hx, hb, hml, hown, hts⟩ (c_X6_isGate n L a rn sp cnt th w op tn pl en kd nb as ln dr M0 M1 M2 M3 M4 x (by first | assumption | omega) (by first | assumption | omega) (by first | assumption | omega) (by first | assumption | omega)) (cwV 1 hts gX6_isOpen_X6_isGate rfl rfl rfl (by decide +kernel) ⟨Nat.le_of_ble_eq_true rfl, Nat.le_of_ble_eq_true rfl⟩) hK hNW hP hD hS hA rfl rfl rfl rfl (by decide) rfl rfl rfl rfl rfl rfl hl.1 rfl (Nat.le_of_ble_eq_true rfl) dX6_isOpen_3 ⟨Nat.zero_le _, Nat.zero_le _⟩ (fun H locs hP hD hS => ?_)
  refine li_top (b := 1) (bz_t (by exact hv)) ?_
  refine li_const hx hb dX6_isOpen_6 ?_
  refine li_const hx hb dX6_isOpen_7 ?_
  refine cl_i0 (isC := [0, 1, 2, 3, 4]) (isR := []) (isN := [0, 1, 2, 3, 4]) (wr := []) (wn := cMd cI n L a rn sp cnt (chA 1 1 1) (rowF w op tn pl en kd nb) as ln dr M0 M1 M2 M3 M4) (As := [.int (iI 1), .int (iI 1), .int (iI 1)]) (rest := []) (r := bz (chA 1 1 1 = 0)) (ci := 6) (q0 := 0) ⟨hx, hb, hml, hown, hts⟩ (c_X6_check n L a rn sp cnt th w op tn pl en kd nb as ln dr M0 M1 M2 M3 M4 1 1 1 (by first | decide | exact bz_01 _ | omega) (by first | decide | exact bz_01 _ | omega) (by first | decide | exact bz_01 _ | omega)) (cwV 3 hts gX6_isOpen_X6_check rfl rfl rfl (by decide +kernel) ⟨Nat.le_of_ble_eq_true rfl, Nat.le_of_ble_eq_true rfl⟩) hK hNW hP hD hS hA rfl rfl rfl rfl (by decide) rfl rfl rfl rfl rfl rfl hl.1 rfl (Nat.le_of_ble_eq_true rfl) dX6_isOpen_8 ⟨Nat.zero_le _, Nat.zero_le _⟩ (fun H locs hP hD hS => ?_)
  refine li_top (b := 1) rfl ?_
  refine li_if_eq_f (tgt := 26) hx hb dX6_isOpen_11 (by decide) (by decide) (by decide) ?_
  refine lv_aload_n hx hb dX6_isOpen_14 rfl (lv_at hl 0 rfl) ?_
  refine lv_iload_n hx hb dX6_isOpen_15 rfl (lv_at hl 1 rfl) ?_
  refine cl_i0 (isC := [0, 1, 2, 3, 4]) (isR := []) (isN := [0, 1, 2, 3, 4]) (wr := []) (wn := cMd cI n L a rn sp cnt 0 (rowF w op tn pl en kd nb) as ln dr M0 M1 M2 M3 M4) (As := [.int (iI x)]) (rest := []) (r := bz (isO op x = true)) (ci := 6) (q0 := 0) ⟨hx, hb, hml, hown, hts⟩ (c_X6_isOpenGate n L a rn sp cnt 0 w op tn pl en kd nb as ln dr M0 M1 M2 M3 M4 x (by first | assumption | omega) (by first | assumption | omega) (by first | assumption | omega) (by first | assumption | omega) (by first | assumption | omega) (by first | assumption | omega)) (cwV 1 hts gX6_isOpen_X6_isOpenGate rfl rfl rfl (by decide +kernel) ⟨Nat.le_of_ble_eq_true rfl, Nat.le_of_ble_eq_true rfl⟩) hK hNW hP hD hS hA rfl rfl rfl rfl (by decide) rfl rfl rfl rfl rfl rfl hl.1 rfl (Nat.le_of_ble_eq_true rfl) dX6_isOpen_16 ⟨Nat.zero_le _, Nat.zero_le _⟩ (fun H locs hP hD hS => ?_)
  refine li_ifb_eq (tgt := 26) hx hb dX6_isOpen_19 (by decide) (fun c_19 => ?_) (fun c_19 => ?_)
  · refine li_const hx hb dX6_isOpen_26 ?_
    exact li_zret () hx hb hr hlocks hK hP hD hS (by decide) dX6_isOpen_27 hQ rfl (congrArg iI (by first | exact (bz_t (by assumption)).symm | exact (bz_f (by assumption)).symm))
  · refine li_const hx hb dX6_isOpen_22 ?_
    refine lv_goto (tgt := 27) hx hb dX6_isOpen_23 (by decide) ?_
    exact li_zret () hx hb hr hlocks hK hP hD hS (by decide) dX6_isOpen_27 hQ rfl (congrArg iI (by first | exact (bz_t (by assumption)).symm | exact (bz_f (by assumption)).symm))

set_option maxRecDepth 100000 in
set_option maxHeartbeats 4000000 in
theorem c_X6_isOpen_no {l : Launch} {D : va_G} {cI cZ cJ : ClassId} (n : Int) (L : Int) (a : Int) (rn : Int) (sp : Int) (cnt : Int) (th : Int) (w : Wt) (op : Int → Int) (tn : Int → Int) (pl : Int → Int) (en : Int) (kd : Int → Int) (nb : Int → Int) (as : Int → Int) (ln : Int → Int) (dr : Int → Int) (M0 M1 M2 M3 M4 : Nat) (x : Int) (hn : 1 ≤ n ∧ n ≤ 6) (hL : 5 ≤ L ∧ L ≤ 40) (ha : 1 ≤ a ∧ a ≤ 50) (hop : opB op) (hoz : ∀ g, n < g → op g = 0) (i_x : -2147483648 ≤ x ∧ x < 2147483648) (hv : ¬ (0 ≤ x ∧ x ≤ n)) : Di l yX6_isOpen wsX6_isOpen 25 [.ref M0, .int (iI x)] D (ty3 cI cZ cJ) (cMd cI n L a rn sp cnt th (rowF w op tn pl en kd nb) as ln dr M0 M1 M2 M3 M4) (0) (cMd cI n L a rn sp cnt 1 (rowF w op tn pl en kd nb) as ln dr M0 M1 M2 M3 M4) := by
  refine ct_i (plainFor_of_name (by decide)) rfl (Nat.le_of_ble_eq_true rfl) ?_
  intro p e s mI args below meth c_0 ls A hx hb hr hml hts hown hlocks hin hA hP hK hD hNW hS hl Q hQ
  have hown : s.vm.findClass RX6 = some mI.cls := hown
  have hl : lv_has ls 2 [(0, .ref M0), (1, .int (iI x))] := hl
  refine lv_aload_n hx hb dX6_isOpen_0 rfl (lv_at hl 0 rfl) ?_
  refine lv_aload_n hx hb dX6_isOpen_1 rfl (lv_at hl 0 rfl) ?_
  refine lv_iload_n hx hb dX6_isOpen_2 rfl (lv_at hl 1 rfl) ?_
  refine cl_i0 (isC := [0, 1, 2, 3, 4]) (isR := []) (isN := [0, 1, 2, 3, 4]) (wr := []) (wn := cMd cI n L a rn sp cnt th (rowF w op tn pl en kd nb) as ln dr M0 M1 M2 M3 M4) (As := [.int (iI x)]) (rest := [.ref M0]) (r := bz (0 ≤ x ∧ x ≤ n)) (ci := 6) (q0 := 0) ⟨hx, hb, hml, hown, hts⟩ (c_X6_isGate n L a rn sp cnt th w op tn pl en kd nb as ln dr M0 M1 M2 M3 M4 x (by first | assumption | omega) (by first | assumption | omega) (by first | assumption | omega) (by first | assumption | omega)) (cwV 1 hts gX6_isOpen_X6_isGate rfl rfl rfl (by decide +kernel) ⟨Nat.le_of_ble_eq_true rfl, Nat.le_of_ble_eq_true rfl⟩) hK hNW hP hD hS hA rfl rfl rfl rfl (by decide) rfl rfl rfl rfl rfl rfl hl.1 rfl (Nat.le_of_ble_eq_true rfl) dX6_isOpen_3 ⟨Nat.zero_le _, Nat.zero_le _⟩ (fun H locs hP hD hS => ?_)
  refine li_top (b := 0) (bz_f (by exact hv)) ?_
  refine li_const hx hb dX6_isOpen_6 ?_
  refine li_const hx hb dX6_isOpen_7 ?_
  refine cl_i0 (isC := [0, 1, 2, 3, 4]) (isR := []) (isN := [0, 1, 2, 3, 4]) (wr := []) (wn := cMd cI n L a rn sp cnt (chA 0 1 1) (rowF w op tn pl en kd nb) as ln dr M0 M1 M2 M3 M4) (As := [.int (iI 0), .int (iI 1), .int (iI 1)]) (rest := []) (r := bz (chA 0 1 1 = 0)) (ci := 6) (q0 := 0) ⟨hx, hb, hml, hown, hts⟩ (c_X6_check n L a rn sp cnt th w op tn pl en kd nb as ln dr M0 M1 M2 M3 M4 0 1 1 (by first | decide | exact bz_01 _ | omega) (by first | decide | exact bz_01 _ | omega) (by first | decide | exact bz_01 _ | omega)) (cwV 3 hts gX6_isOpen_X6_check rfl rfl rfl (by decide +kernel) ⟨Nat.le_of_ble_eq_true rfl, Nat.le_of_ble_eq_true rfl⟩) hK hNW hP hD hS hA rfl rfl rfl rfl (by decide) rfl rfl rfl rfl rfl rfl hl.1 rfl (Nat.le_of_ble_eq_true rfl) dX6_isOpen_8 ⟨Nat.zero_le _, Nat.zero_le _⟩ (fun H locs hP hD hS => ?_)
  refine li_top (b := 0) rfl ?_
  refine li_if_eq_t (tgt := 26) hx hb dX6_isOpen_11 (by decide) (by decide) (by decide) ?_
  refine li_const hx hb dX6_isOpen_26 ?_
  exact li_zret () hx hb hr hlocks hK hP hD hS (by decide) dX6_isOpen_27 hQ rfl (congrArg iI (rfl))

set_option maxRecDepth 100000 in
set_option maxHeartbeats 4000000 in
theorem c_X6_openObstacle_ok {l : Launch} {D : va_G} {cI cZ cJ : ClassId} (n : Int) (L : Int) (a : Int) (rn : Int) (sp : Int) (cnt : Int) (th : Int) (w : Wt) (op : Int → Int) (tn : Int → Int) (pl : Int → Int) (en : Int) (kd : Int → Int) (nb : Int → Int) (as : Int → Int) (ln : Int → Int) (dr : Int → Int) (M0 M1 M2 M3 M4 : Nat) (x : Int) (hn : 1 ≤ n ∧ n ≤ 6) (hL : 5 ≤ L ∧ L ≤ 40) (ha : 1 ≤ a ∧ a ≤ 50) (hw : WI n L a w) (hop : opB op) (hoz : ∀ g, n < g → op g = 0) (htn : tnB tn) (htz : ∀ g, n < g → tn g = 0) (i_x : -2147483648 ≤ x ∧ x < 2147483648) (hv : 0 ≤ x ∧ x ≤ n) : Di l yX6_openObstacle wsX6_openObstacle 25 [.ref M0, .int (iI x)] D (ty3 cI cZ cJ) (cMd cI n L a rn sp cnt th (rowF w op tn pl en kd nb) as ln dr M0 M1 M2 M3 M4) (opO n L a w op tn x) (cMd cI n L a rn sp cnt 0 (rowF w op tn pl en kd nb) as ln dr M0 M1 M2 M3 M4) := by
  refine ct_i (plainFor_of_name (by decide)) rfl (Nat.le_of_ble_eq_true rfl) ?_
  intro p e s mI args below meth c_0 ls A hx hb hr hml hts hown hlocks hin hA hP hK hD hNW hS hl Q hQ
  have hown : s.vm.findClass RX6 = some mI.cls := hown
  have hl : lv_has ls 2 [(0, .ref M0), (1, .int (iI x))] := hl
  refine lv_aload_n hx hb dX6_openObstacle_0 rfl (lv_at hl 0 rfl) ?_
  refine lv_aload_n hx hb dX6_openObstacle_1 rfl (lv_at hl 0 rfl) ?_
  refine lv_iload_n hx hb dX6_openObstacle_2 rfl (lv_at hl 1 rfl) ?_
  refine cl_i0 (isC := [0, 1, 2, 3, 4]) (isR := []) (isN := [0, 1, 2, 3, 4]) (wr := []) (wn := cMd cI n L a rn sp cnt th (rowF w op tn pl en kd nb) as ln dr M0 M1 M2 M3 M4) (As := [.int (iI x)]) (rest := [.ref M0]) (r := bz (0 ≤ x ∧ x ≤ n)) (ci := 6) (q0 := 0) ⟨hx, hb, hml, hown, hts⟩ (c_X6_isGate n L a rn sp cnt th w op tn pl en kd nb as ln dr M0 M1 M2 M3 M4 x (by first | assumption | omega) (by first | assumption | omega) (by first | assumption | omega) (by first | assumption | omega)) (cwV 1 hts gX6_openObstacle_X6_isGate rfl rfl rfl (by decide +kernel) ⟨Nat.le_of_ble_eq_true rfl, Nat.le_of_ble_eq_true rfl⟩) hK hNW hP hD hS hA rfl rfl rfl rfl (by decide) rfl rfl rfl rfl rfl rfl hl.1 rfl (Nat.le_of_ble_eq_true rfl) dX6_openObstacle_3 ⟨Nat.zero_le _, Nat.zero_le _⟩ (fun H locs hP hD hS => ?_)
  refine li_top (b := 1) (bz_t (by exact hv)) ?_
  refine li_const hx hb dX6_openObstacle_6 ?_
  refine li_const hx hb dX6_openObstacle_7 ?_
  refine cl_i0 (isC := [0, 1, 2, 3, 4]) (isR := []) (isN := [0, 1, 2, 3, 4]) (wr := []) (wn := cMd cI n L a rn sp cnt (chA 1 1 1) (rowF w op tn pl en kd nb) as ln dr M0 M1 M2 M3 M4) (As := [.int (iI 1), .int (iI 1), .int (iI 1)]) (rest := []) (r := bz (chA 1 1 1 = 0)) (ci := 6) (q0 := 0) ⟨hx, hb, hml, hown, hts⟩ (c_X6_check n L a rn sp cnt th w op tn pl en kd nb as ln dr M0 M1 M2 M3 M4 1 1 1 (by first | decide | exact bz_01 _ | omega) (by first | decide | exact bz_01 _ | omega) (by first | decide | exact bz_01 _ | omega)) (cwV 3 hts gX6_openObstacle_X6_check rfl rfl rfl (by decide +kernel) ⟨Nat.le_of_ble_eq_true rfl, Nat.le_of_ble_eq_true rfl⟩) hK hNW hP hD hS hA rfl rfl rfl rfl (by decide) rfl rfl rfl rfl rfl rfl hl.1 rfl (Nat.le_of_ble_eq_true rfl) dX6_openObstacle_8 ⟨Nat.zero_le _, Nat.zero_le _⟩ (fun H locs hP hD hS => ?_)
  refine li_top (b := 1) rfl ?_
  refine li_if_eq_f (tgt := 22) hx hb dX6_openObstacle_11 (by decide) (by decide) (by decide) ?_
  refine lv_aload_n hx hb dX6_openObstacle_14 rfl (lv_at hl 0 rfl) ?_
  refine lv_iload_n hx hb dX6_openObstacle_15 rfl (lv_at hl 1 rfl) ?_
  refine cl_i0 (isC := [0, 1, 2, 3, 4]) (isR := []) (isN := [0, 1, 2, 3, 4]) (wr := []) (wn := cMd cI n L a rn sp cnt 0 (rowF w op tn pl en kd nb) as ln dr M0 M1 M2 M3 M4) (As := [.int (iI x)]) (rest := []) (r := opO n L a w op tn x) (ci := 6) (q0 := 0) ⟨hx, hb, hml, hown, hts⟩ (c_X6_obstacleToOpen n L a rn sp cnt 0 w op tn pl en kd nb as ln dr M0 M1 M2 M3 M4 x (by first | assumption | omega) (by first | assumption | omega) (by first | assumption | omega) (by first | assumption | omega) (by first | assumption | omega) (by first | assumption | omega) (by first | assumption | omega) (by first | assumption | omega) (by first | assumption | omega)) (cwV 1 hts gX6_openObstacle_X6_obstacleToOpen rfl rfl rfl (by decide +kernel) ⟨Nat.le_of_ble_eq_true rfl, Nat.le_of_ble_eq_true rfl⟩) hK hNW hP hD hS hA rfl rfl rfl rfl (by decide) rfl rfl rfl rfl rfl rfl hl.1 rfl (Nat.le_of_ble_eq_true rfl) dX6_openObstacle_16 ⟨Nat.zero_le _, Nat.zero_le _⟩ (fun H locs hP hD hS => ?_)
  refine lv_goto (tgt := 23) hx hb dX6_openObstacle_19 (by decide) ?_
  exact li_iret () hx hb hr hlocks hK hP hD hS dX6_openObstacle_23 hQ rfl (congrArg iI (rfl))

set_option maxRecDepth 100000 in
set_option maxHeartbeats 4000000 in
theorem c_X6_openObstacle_no {l : Launch} {D : va_G} {cI cZ cJ : ClassId} (n : Int) (L : Int) (a : Int) (rn : Int) (sp : Int) (cnt : Int) (th : Int) (w : Wt) (op : Int → Int) (tn : Int → Int) (pl : Int → Int) (en : Int) (kd : Int → Int) (nb : Int → Int) (as : Int → Int) (ln : Int → Int) (dr : Int → Int) (M0 M1 M2 M3 M4 : Nat) (x : Int) (hn : 1 ≤ n ∧ n ≤ 6) (hL : 5 ≤ L ∧ L ≤ 40) (ha : 1 ≤ a ∧ a ≤ 50) (hw : WI n L a w) (hop : opB op) (hoz : ∀ g, n < g → op g = 0) (htn : tnB tn) (htz : ∀ g, n < g → tn g = 0) (i_x : -2147483648 ≤ x ∧ x < 2147483648) (hv : ¬ (0 ≤ x ∧ x ≤ n)) : Di l yX6_openObstacle wsX6_openObstacle 25 [.ref M0, .int (iI x)] D (ty3 cI cZ cJ) (cMd cI n L a rn sp cnt th (rowF w op tn pl en kd nb) as ln dr M0 M1 M2 M3 M4) (0) (cMd cI n L a rn sp cnt 1 (rowF w op tn pl en kd nb) as ln dr M0 M1 M2 M3 M4) := by
  refine ct_i (plainFor_of_name (by decide)) rfl (Nat.le_of_ble_eq_true rfl) ?_
  intro p e s mI args below meth c_0 ls A hx hb hr hml hts hown hlocks hin hA hP hK hD hNW hS hl Q hQ
  have hown : s.vm.findClass RX6 = some mI.cls := hown
  have hl : lv_has ls 2 [(0, .ref M0), (1, .int (iI x))] := hl
  refine lv_aload_n hx hb dX6_openObstacle_0 rfl (lv_at hl 0 rfl) ?_
  refine lv_aload_n hx hb dX6_openObstacle_1 rfl (lv_at hl 0 rfl) ?_
  refine lv_iload_n hx hb dX6_openObstacle_2 rfl (lv_at hl 1 rfl) ?_
  refine cl_i0 (isC := [0, 1, 2, 3, 4]) (isR := []) (isN := [0, 1, 2, 3, 4]) (wr := []) (wn := cMd cI n L a rn sp cnt th (rowF w op tn pl en kd nb) as ln dr M0 M1 M2 M3 M4) (As := [.int (iI x)]) (rest := [.ref M0]) (r := bz (0 ≤ x ∧ x ≤ n)) (ci := 6) (q0 := 0) ⟨hx, hb, hml, hown, hts⟩ (c_X6_isGate n L a rn sp cnt th w op tn pl en kd nb as ln dr M0 M1 M2 M3 M4 x (by first | assumption | omega) (by first | assumption | omega) (by first | assumption | omega) (by first | assumption | omega)) (cwV 1 hts gX6_openObstacle_X6_isGate rfl rfl rfl (by decide +kernel) ⟨Nat.le_of_ble_eq_true rfl, Nat.le_of_ble_eq_true rfl⟩) hK hNW hP hD hS hA rfl rfl rfl rfl (by decide) rfl rfl rfl rfl rfl rfl hl.1 rfl (Nat.le_of_ble_eq_true rfl) dX6_openObstacle_3 ⟨Nat.zero_le _, Nat.zero_le _⟩ (fun H locs hP hD hS => ?_)
  refine li_top (b := 0) (bz_f (by exact hv)) ?_
  refine li_const hx hb dX6_openObstacle_6 ?_
  refine li_const hx hb dX6_openObstacle_7 ?_
  refine cl_i0 (isC := [0, 1, 2, 3, 4]) (isR := []) (isN := [0, 1, 2, 3, 4]) (wr := []) (wn := cMd cI n L a rn sp cnt (chA 0 1 1) (rowF w op tn pl en kd nb) as ln dr M0 M1 M2 M3 M4) (As := [.int (iI 0), .int (iI 1), .int (iI 1)]) (rest := []) (r := bz (chA 0 1 1 = 0)) (ci := 6) (q0 := 0) ⟨hx, hb, hml, hown, hts⟩ (c_X6_check n L a rn sp cnt th w op tn pl en kd nb as ln dr M0 M1 M2 M3 M4 0 1 1 (by first | decide | exact bz_01 _ | omega) (by first | decide | exact bz_01 _ | omega) (by first | decide | exact bz_01 _ | omega)) (cwV 3 hts gX6_openObstacle_X6_check rfl rfl rfl (by decide +kernel) ⟨Nat.le_of_ble_eq_true rfl, Nat.le_of_ble_eq_true rfl⟩) hK hNW hP hD hS hA rfl rfl rfl rfl (by decide) rfl rfl rfl rfl rfl rfl hl.1 rfl (Nat.le_of_ble_eq_true rfl) dX6_openObstacle_8 ⟨Nat.zero_le _, Nat.zero_le _⟩ (fun H locs hP hD hS => ?_)
  refine li_top (b := 0) rfl ?_
  refine li_if_eq_t (tgt := 22) hx hb dX6_openObstacle_11 (by decide) (by decide) (by decide) ?_
  refine li_const hx hb dX6_openObstacle_22 ?_
  exact li_iret () hx hb hr hlocks hK hP hD hS dX6_openObstacle_23 hQ rfl (congrArg iI (rfl))

set_option maxRecDepth 100000 in
set_option maxHeartbeats 4000000 in
theorem c_X6_shut_ok {l : Launch} {D : va_G} {cI cZ cJ : ClassId} (n : Int) (L : Int) (a : Int) (rn : Int) (sp : Int) (cnt : Int) (th : Int) (w : Wt) (op : Int → Int) (tn : Int → Int) (pl : Int → Int) (en : Int) (kd : Int → Int) (nb : Int → Int) (as : Int → Int) (ln : Int → Int) (dr : Int → Int) (M0 M1 M2 M3 M4 : Nat) (x : Int) (hn : 1 ≤ n ∧ n ≤ 6) (hL : 5 ≤ L ∧ L ≤ 40) (ha : 1 ≤ a ∧ a ≤ 50) (hop : opB op) (hoz : ∀ g, n < g → op g = 0) (i_x : -2147483648 ≤ x ∧ x < 2147483648) (hv : 0 ≤ x ∧ x ≤ n) : Di l yX6_shut wsX6_shut 25 [.ref M0, .int (iI x)] D (ty3 cI cZ cJ) (cMd cI n L a rn sp cnt th (rowF w op tn pl en kd nb) as ln dr M0 M1 M2 M3 M4) (bz (isO op x = true)) (cMd cI n L a rn sp cnt 0 (rowF w (upZ op x 0) tn pl en kd nb) as ln dr M0 M1 M2 M3 M4) := by
  refine ct_i (plainFor_of_name (by decide)) rfl (Nat.le_of_ble_eq_true rfl) ?_
  intro p e s mI args below meth c_0 ls A hx hb hr hml hts hown hlocks hin hA hP hK hD hNW hS hl Q hQ
  have hown : s.vm.findClass RX6 = some mI.cls := hown
  have hl : lv_has ls 3 [(0, .ref M0), (1, .int (iI x))] := hl
  have hin_X6 : ∀ w ∈ wsX60, w ∈ wsX6_shut := by decide +kernel
  have hf_9 := hts (.fieldLink RX6 9 "LockStaircaseModel" "row" "[I") (by decide +kernel)
  refine lv_aload_n hx hb dX6_shut_0 rfl (lv_at hl 0 rfl) ?_
  refine lv_aload_n hx hb dX6_shut_1 rfl (lv_at hl 0 rfl) ?_
  refine lv_iload_n hx hb dX6_shut_2 rfl (lv_at hl 1 rfl) ?_
  refine cl_i0 (isC := [0, 1, 2, 3, 4]) (isR := []) (isN := [0, 1, 2, 3, 4]) (wr := []) (wn := cMd cI n L a rn sp cnt th (rowF w op tn pl en kd nb) as ln dr M0 M1 M2 M3 M4) (As := [.int (iI x)]) (rest := [.ref M0]) (r := bz (0 ≤ x ∧ x ≤ n)) (ci := 6) (q0 := 0) ⟨hx, hb, hml, hown, hts⟩ (c_X6_isGate n L a rn sp cnt th w op tn pl en kd nb as ln dr M0 M1 M2 M3 M4 x (by first | assumption | omega) (by first | assumption | omega) (by first | assumption | omega) (by first | assumption | omega)) (cwV 1 hts gX6_shut_X6_isGate rfl rfl rfl (by decide +kernel) ⟨Nat.le_of_ble_eq_true rfl, Nat.le_of_ble_eq_true rfl⟩) hK hNW hP hD hS hA rfl rfl rfl rfl (by decide) rfl rfl rfl rfl rfl rfl hl.1 rfl (Nat.le_of_ble_eq_true rfl) dX6_shut_3 ⟨Nat.zero_le _, Nat.zero_le _⟩ (fun H locs hP hD hS => ?_)
  refine li_top (b := 1) (bz_t (by exact hv)) ?_
  refine li_const hx hb dX6_shut_6 ?_
  refine li_const hx hb dX6_shut_7 ?_
  refine cl_i0 (isC := [0, 1, 2, 3, 4]) (isR := []) (isN := [0, 1, 2, 3, 4]) (wr := []) (wn := cMd cI n L a rn sp cnt (chA 1 1 1) (rowF w op tn pl en kd nb) as ln dr M0 M1 M2 M3 M4) (As := [.int (iI 1), .int (iI 1), .int (iI 1)]) (rest := []) (r := bz (chA 1 1 1 = 0)) (ci := 6) (q0 := 0) ⟨hx, hb, hml, hown, hts⟩ (c_X6_check n L a rn sp cnt th w op tn pl en kd nb as ln dr M0 M1 M2 M3 M4 1 1 1 (by first | decide | exact bz_01 _ | omega) (by first | decide | exact bz_01 _ | omega) (by first | decide | exact bz_01 _ | omega)) (cwV 3 hts gX6_shut_X6_check rfl rfl rfl (by decide +kernel) ⟨Nat.le_of_ble_eq_true rfl, Nat.le_of_ble_eq_true rfl⟩) hK hNW hP hD hS hA rfl rfl rfl rfl (by decide) rfl rfl rfl rfl rfl rfl hl.1 rfl (Nat.le_of_ble_eq_true rfl) dX6_shut_8 ⟨Nat.zero_le _, Nat.zero_le _⟩ (fun H locs hP hD hS => ?_)
  refine li_top (b := 1) rfl ?_
  refine li_if_ne_t (tgt := 16) hx hb dX6_shut_11 (by decide) (by decide) (by decide) ?_
  refine lv_aload_n hx hb dX6_shut_16 rfl (lv_at hl 0 rfl) ?_
  refine lv_iload_n hx hb dX6_shut_17 rfl (lv_at hl 1 rfl) ?_
  refine cl_i0 (isC := [0, 1, 2, 3, 4]) (isR := []) (isN := [0, 1, 2, 3, 4]) (wr := []) (wn := cMd cI n L a rn sp cnt 0 (rowF w op tn pl en kd nb) as ln dr M0 M1 M2 M3 M4) (As := [.int (iI x)]) (rest := []) (r := bz (isO op x = true)) (ci := 6) (q0 := 0) ⟨hx, hb, hml, hown, hts⟩ (c_X6_isOpenGate n L a rn sp cnt 0 w op tn pl en kd nb as ln dr M0 M1 M2 M3 M4 x (by first | assumption | omega) (by first | assumption | omega) (by first | assumption | omega) (by first | assumption | omega) (by first | assumption | omega) (by first | assumption | omega)) (cwV 1 hts gX6_shut_X6_isOpenGate rfl rfl rfl (by decide +kernel) ⟨Nat.le_of_ble_eq_true rfl, Nat.le_of_ble_eq_true rfl⟩) hK hNW hP hD hS hA rfl rfl rfl rfl (by decide) rfl rfl rfl rfl rfl rfl hl.1 rfl (Nat.le_of_ble_eq_true rfl) dX6_shut_18 ⟨Nat.zero_le _, Nat.zero_le _⟩ (fun H locs hP hD hS => ?_)
  refine lv_istore_n (lv' := [(2, .int (iI (bz (isO op x = true)))), (0, .ref M0), (1, .int (iI x))]) hx hb dX6_shut_21 rfl hl (by decide) rfl (fun ls hl => ?_)
  refine lv_aload_n hx hb dX6_shut_22 rfl (lv_at hl 1 rfl) ?_
  refine li_get (ci := 6) (v := .ref M1) (C := RX6) (T := TX6) (N := 11) (q0 := 0) (k := 5) hx hb hts hin_X6 hown hK hP rfl rfl (by decide) hf_9 rfl rfl dX6_shut_23 ?_
  refine li_bipush hx hb dX6_shut_26 (by decide) ?_
  refine lv_iload_n hx hb dX6_shut_28 rfl (lv_at hl 2 rfl) ?_
  refine li_add hx hb dX6_shut_29 ?_
  refine li_const hx hb dX6_shut_30 ?_
  refine li_iast (q0 := 1) (t0 := 0) (g := (rowF w op tn pl en kd nb)) (w2 := cMd cI n L a rn sp cnt 0 (rowF w (upZ op x 0) tn pl en kd nb) as ln dr M0 M1 M2 M3 M4) hx hb hK hP hD hS rfl rfl (by omega) (by omega) (ib_i (by omega) (by omega)) dX6_shut_31 (by rw [wr_o (c := x) (by omega) (by omega) (by omega)] <;> rfl) (fun H locs hP hD hS => ?_)
  refine lv_iload_n hx hb dX6_shut_32 rfl (lv_at hl 0 rfl) ?_
  exact li_zret () hx hb hr hlocks hK hP hD hS (by exact bz_01 _) dX6_shut_33 hQ rfl (congrArg iI (rfl))

set_option maxRecDepth 100000 in
set_option maxHeartbeats 4000000 in
theorem c_X6_shut_no {l : Launch} {D : va_G} {cI cZ cJ : ClassId} (n : Int) (L : Int) (a : Int) (rn : Int) (sp : Int) (cnt : Int) (th : Int) (w : Wt) (op : Int → Int) (tn : Int → Int) (pl : Int → Int) (en : Int) (kd : Int → Int) (nb : Int → Int) (as : Int → Int) (ln : Int → Int) (dr : Int → Int) (M0 M1 M2 M3 M4 : Nat) (x : Int) (hn : 1 ≤ n ∧ n ≤ 6) (hL : 5 ≤ L ∧ L ≤ 40) (ha : 1 ≤ a ∧ a ≤ 50) (hop : opB op) (hoz : ∀ g, n < g → op g = 0) (i_x : -2147483648 ≤ x ∧ x < 2147483648) (hv : ¬ (0 ≤ x ∧ x ≤ n)) : Di l yX6_shut wsX6_shut 25 [.ref M0, .int (iI x)] D (ty3 cI cZ cJ) (cMd cI n L a rn sp cnt th (rowF w op tn pl en kd nb) as ln dr M0 M1 M2 M3 M4) (0) (cMd cI n L a rn sp cnt 1 (rowF w op tn pl en kd nb) as ln dr M0 M1 M2 M3 M4) := by
  refine ct_i (plainFor_of_name (by decide)) rfl (Nat.le_of_ble_eq_true rfl) ?_
  intro p e s mI args below meth c_0 ls A hx hb hr hml hts hown hlocks hin hA hP hK hD hNW hS hl Q hQ
  have hown : s.vm.findClass RX6 = some mI.cls := hown
  have hl : lv_has ls 3 [(0, .ref M0), (1, .int (iI x))] := hl
  refine lv_aload_n hx hb dX6_shut_0 rfl (lv_at hl 0 rfl) ?_
  refine lv_aload_n hx hb dX6_shut_1 rfl (lv_at hl 0 rfl) ?_
  refine lv_iload_n hx hb dX6_shut_2 rfl (lv_at hl 1 rfl) ?_
  refine cl_i0 (isC := [0, 1, 2, 3, 4]) (isR := []) (isN := [0, 1, 2, 3, 4]) (wr := []) (wn := cMd cI n L a rn sp cnt th (rowF w op tn pl en kd nb) as ln dr M0 M1 M2 M3 M4) (As := [.int (iI x)]) (rest := [.ref M0]) (r := bz (0 ≤ x ∧ x ≤ n)) (ci := 6) (q0 := 0) ⟨hx, hb, hml, hown, hts⟩ (c_X6_isGate n L a rn sp cnt th w op tn pl en kd nb as ln dr M0 M1 M2 M3 M4 x (by first | assumption | omega) (by first | assumption | omega) (by first | assumption | omega) (by first | assumption | omega)) (cwV 1 hts gX6_shut_X6_isGate rfl rfl rfl (by decide +kernel) ⟨Nat.le_of_ble_eq_true rfl, Nat.le_of_ble_eq_true rfl⟩) hK hNW hP hD hS hA rfl rfl rfl rfl (by decide) rfl rfl rfl rfl rfl rfl hl.1 rfl (Nat.le_of_ble_eq_true rfl) dX6_shut_3 ⟨Nat.zero_le _, Nat.zero_le _⟩ (fun H locs hP hD hS => ?_)
  refine li_top (b := 0) (bz_f (by exact hv)) ?_
  refine li_const hx hb dX6_shut_6 ?_
  refine li_const hx hb dX6_shut_7 ?_
  refine cl_i0 (isC := [0, 1, 2, 3, 4]) (isR := []) (isN := [0, 1, 2, 3, 4]) (wr := []) (wn := cMd cI n L a rn sp cnt (chA 0 1 1) (rowF w op tn pl en kd nb) as ln dr M0 M1 M2 M3 M4) (As := [.int (iI 0), .int (iI 1), .int (iI 1)]) (rest := []) (r := bz (chA 0 1 1 = 0)) (ci := 6) (q0 := 0) ⟨hx, hb, hml, hown, hts⟩ (c_X6_check n L a rn sp cnt th w op tn pl en kd nb as ln dr M0 M1 M2 M3 M4 0 1 1 (by first | decide | exact bz_01 _ | omega) (by first | decide | exact bz_01 _ | omega) (by first | decide | exact bz_01 _ | omega)) (cwV 3 hts gX6_shut_X6_check rfl rfl rfl (by decide +kernel) ⟨Nat.le_of_ble_eq_true rfl, Nat.le_of_ble_eq_true rfl⟩) hK hNW hP hD hS hA rfl rfl rfl rfl (by decide) rfl rfl rfl rfl rfl rfl hl.1 rfl (Nat.le_of_ble_eq_true rfl) dX6_shut_8 ⟨Nat.zero_le _, Nat.zero_le _⟩ (fun H locs hP hD hS => ?_)
  refine li_top (b := 0) rfl ?_
  refine li_if_ne_f (tgt := 16) hx hb dX6_shut_11 (by decide) (by decide) (by decide) ?_
  refine li_const hx hb dX6_shut_14 ?_
  exact li_zret () hx hb hr hlocks hK hP hD hS (by decide) dX6_shut_15 hQ rfl (congrArg iI (rfl))

set_option maxRecDepth 100000 in
set_option maxHeartbeats 4000000 in
theorem c_X6_turnsOf_ok {l : Launch} {D : va_G} {cI cZ cJ : ClassId} (n : Int) (L : Int) (a : Int) (rn : Int) (sp : Int) (cnt : Int) (th : Int) (w : Wt) (op : Int → Int) (tn : Int → Int) (pl : Int → Int) (en : Int) (kd : Int → Int) (nb : Int → Int) (as : Int → Int) (ln : Int → Int) (dr : Int → Int) (M0 M1 M2 M3 M4 : Nat) (x : Int) (hn : 1 ≤ n ∧ n ≤ 6) (hL : 5 ≤ L ∧ L ≤ 40) (ha : 1 ≤ a ∧ a ≤ 50) (htn : tnB tn) (i_x : -2147483648 ≤ x ∧ x < 2147483648) (hv : 0 ≤ x ∧ x ≤ n) : Di l yX6_turnsOf wsX6_turnsOf 25 [.ref M0, .int (iI x)] D (ty3 cI cZ cJ) (cMd cI n L a rn sp cnt th (rowF w op tn pl en kd nb) as ln dr M0 M1 M2 M3 M4) (tnA tn x) (cMd cI n L a rn sp cnt 0 (rowF w op tn pl en kd nb) as ln dr M0 M1 M2 M3 M4) := by
  refine ct_i (plainFor_of_name (by decide)) rfl (Nat.le_of_ble_eq_true rfl) ?_
  intro p e s mI args below meth c_0 ls A hx hb hr hml hts hown hlocks hin hA hP hK hD hNW hS hl Q hQ
  have hown : s.vm.findClass RX6 = some mI.cls := hown
  have hl : lv_has ls 2 [(0, .ref M0), (1, .int (iI x))] := hl
  have hin_X6 : ∀ w ∈ wsX60, w ∈ wsX6_turnsOf := by decide +kernel
  have hf_9 := hts (.fieldLink RX6 9 "LockStaircaseModel" "row" "[I") (by decide +kernel)
  refine lv_aload_n hx hb dX6_turnsOf_0 rfl (lv_at hl 0 rfl) ?_
  refine lv_aload_n hx hb dX6_turnsOf_1 rfl (lv_at hl 0 rfl) ?_
  refine lv_iload_n hx hb dX6_turnsOf_2 rfl (lv_at hl 1 rfl) ?_
  refine cl_i0 (isC := [0, 1, 2, 3, 4]) (isR := []) (isN := [0, 1, 2, 3, 4]) (wr := []) (wn := cMd cI n L a rn sp cnt th (rowF w op tn pl en kd nb) as ln dr M0 M1 M2 M3 M4) (As := [.int (iI x)]) (rest := [.ref M0]) (r := bz (0 ≤ x ∧ x ≤ n)) (ci := 6) (q0 := 0) ⟨hx, hb, hml, hown, hts⟩ (c_X6_isGate n L a rn sp cnt th w op tn pl en kd nb as ln dr M0 M1 M2 M3 M4 x (by first | assumption | omega) (by first | assumption | omega) (by first | assumption | omega) (by first | assumption | omega)) (cwV 1 hts gX6_turnsOf_X6_isGate rfl rfl rfl (by decide +kernel) ⟨Nat.le_of_ble_eq_true rfl, Nat.le_of_ble_eq_true rfl⟩) hK hNW hP hD hS hA rfl rfl rfl rfl (by decide) rfl rfl rfl rfl rfl rfl hl.1 rfl (Nat.le_of_ble_eq_true rfl) dX6_turnsOf_3 ⟨Nat.zero_le _, Nat.zero_le _⟩ (fun H locs hP hD hS => ?_)
  refine li_top (b := 1) (bz_t (by exact hv)) ?_
  refine li_const hx hb dX6_turnsOf_6 ?_
  refine li_const hx hb dX6_turnsOf_7 ?_
  refine cl_i0 (isC := [0, 1, 2, 3, 4]) (isR := []) (isN := [0, 1, 2, 3, 4]) (wr := []) (wn := cMd cI n L a rn sp cnt (chA 1 1 1) (rowF w op tn pl en kd nb) as ln dr M0 M1 M2 M3 M4) (As := [.int (iI 1), .int (iI 1), .int (iI 1)]) (rest := []) (r := bz (chA 1 1 1 = 0)) (ci := 6) (q0 := 0) ⟨hx, hb, hml, hown, hts⟩ (c_X6_check n L a rn sp cnt th w op tn pl en kd nb as ln dr M0 M1 M2 M3 M4 1 1 1 (by first | decide | exact bz_01 _ | omega) (by first | decide | exact bz_01 _ | omega) (by first | decide | exact bz_01 _ | omega)) (cwV 3 hts gX6_turnsOf_X6_check rfl rfl rfl (by decide +kernel) ⟨Nat.le_of_ble_eq_true rfl, Nat.le_of_ble_eq_true rfl⟩) hK hNW hP hD hS hA rfl rfl rfl rfl (by decide) rfl rfl rfl rfl rfl rfl hl.1 rfl (Nat.le_of_ble_eq_true rfl) dX6_turnsOf_8 ⟨Nat.zero_le _, Nat.zero_le _⟩ (fun H locs hP hD hS => ?_)
  refine li_top (b := 1) rfl ?_
  refine li_if_eq_f (tgt := 26) hx hb dX6_turnsOf_11 (by decide) (by decide) (by decide) ?_
  refine lv_aload_n hx hb dX6_turnsOf_14 rfl (lv_at hl 0 rfl) ?_
  refine li_get (ci := 6) (v := .ref M1) (C := RX6) (T := TX6) (N := 11) (q0 := 0) (k := 5) hx hb hts hin_X6 hown hK hP rfl rfl (by decide) hf_9 rfl rfl dX6_turnsOf_15 ?_
  refine li_bipush hx hb dX6_turnsOf_18 (by decide) ?_
  refine lv_iload_n hx hb dX6_turnsOf_20 rfl (lv_at hl 1 rfl) ?_
  refine li_add hx hb dX6_turnsOf_21 ?_
  refine li_iald (q0 := 1) (t0 := 0) (g := (rowF w op tn pl en kd nb)) hx hb hK hP rfl rfl (by omega) (by omega) (ib_i (by omega) (by omega)) dX6_turnsOf_22 ?_
  refine li_top (b := tn x) (rd_t (c := x) (by omega) (by omega) (by omega)) ?_
  refine lv_goto (tgt := 27) hx hb dX6_turnsOf_23 (by decide) ?_
  exact li_iret () hx hb hr hlocks hK hP hD hS dX6_turnsOf_27 hQ rfl (congrArg iI (by unfold tnA; rw [if_pos (by omega)]))

set_option maxRecDepth 100000 in
set_option maxHeartbeats 4000000 in
theorem c_X6_turnsOf_no {l : Launch} {D : va_G} {cI cZ cJ : ClassId} (n : Int) (L : Int) (a : Int) (rn : Int) (sp : Int) (cnt : Int) (th : Int) (w : Wt) (op : Int → Int) (tn : Int → Int) (pl : Int → Int) (en : Int) (kd : Int → Int) (nb : Int → Int) (as : Int → Int) (ln : Int → Int) (dr : Int → Int) (M0 M1 M2 M3 M4 : Nat) (x : Int) (hn : 1 ≤ n ∧ n ≤ 6) (hL : 5 ≤ L ∧ L ≤ 40) (ha : 1 ≤ a ∧ a ≤ 50) (htn : tnB tn) (i_x : -2147483648 ≤ x ∧ x < 2147483648) (hv : ¬ (0 ≤ x ∧ x ≤ n)) : Di l yX6_turnsOf wsX6_turnsOf 25 [.ref M0, .int (iI x)] D (ty3 cI cZ cJ) (cMd cI n L a rn sp cnt th (rowF w op tn pl en kd nb) as ln dr M0 M1 M2 M3 M4) (0) (cMd cI n L a rn sp cnt 1 (rowF w op tn pl en kd nb) as ln dr M0 M1 M2 M3 M4) := by
  refine ct_i (plainFor_of_name (by decide)) rfl (Nat.le_of_ble_eq_true rfl) ?_
  intro p e s mI args below meth c_0 ls A hx hb hr hml hts hown hlocks hin hA hP hK hD hNW hS hl Q hQ
  have hown : s.vm.findClass RX6 = some mI.cls := hown
  have hl : lv_has ls 2 [(0, .ref M0), (1, .int (iI x))] := hl
  refine lv_aload_n hx hb dX6_turnsOf_0 rfl (lv_at hl 0 rfl) ?_
  refine lv_aload_n hx hb dX6_turnsOf_1 rfl (lv_at hl 0 rfl) ?_
  refine lv_iload_n hx hb dX6_turnsOf_2 rfl (lv_at hl 1 rfl) ?_
  refine cl_i0 (isC := [0, 1, 2, 3, 4]) (isR := []) (isN := [0, 1, 2, 3, 4]) (wr := []) (wn := cMd cI n L a rn sp cnt th (rowF w op tn pl en kd nb) as ln dr M0 M1 M2 M3 M4) (As := [.int (iI x)]) (rest := [.ref M0]) (r := bz (0 ≤ x ∧ x ≤ n)) (ci := 6) (q0 := 0) ⟨hx, hb, hml, hown, hts⟩ (c_X6_isGate n L a rn sp cnt th w op tn pl en kd nb as ln dr M0 M1 M2 M3 M4 x (by first | assumption | omega) (by first | assumption | omega) (by first | assumption | omega) (by first | assumption | omega)) (cwV 1 hts gX6_turnsOf_X6_isGate rfl rfl rfl (by decide +kernel) ⟨Nat.le_of_ble_eq_true rfl, Nat.le_of_ble_eq_true rfl⟩) hK hNW hP hD hS hA rfl rfl rfl rfl (by decide) rfl rfl rfl rfl rfl rfl hl.1 rfl (Nat.le_of_ble_eq_true rfl) dX6_turnsOf_3 ⟨Nat.zero_le _, Nat.zero_le _⟩ (fun H locs hP hD hS => ?_)
  refine li_top (b := 0) (bz_f (by exact hv)) ?_
  refine li_const hx hb dX6_turnsOf_6 ?_
  refine li_const hx hb dX6_turnsOf_7 ?_
  refine cl_i0 (isC := [0, 1, 2, 3, 4]) (isR := []) (isN := [0, 1, 2, 3, 4]) (wr := []) (wn := cMd cI n L a rn sp cnt (chA 0 1 1) (rowF w op tn pl en kd nb) as ln dr M0 M1 M2 M3 M4) (As := [.int (iI 0), .int (iI 1), .int (iI 1)]) (rest := []) (r := bz (chA 0 1 1 = 0)) (ci := 6) (q0 := 0) ⟨hx, hb, hml, hown, hts⟩ (c_X6_check n L a rn sp cnt th w op tn pl en kd nb as ln dr M0 M1 M2 M3 M4 0 1 1 (by first | decide | exact bz_01 _ | omega) (by first | decide | exact bz_01 _ | omega) (by first | decide | exact bz_01 _ | omega)) (cwV 3 hts gX6_turnsOf_X6_check rfl rfl rfl (by decide +kernel) ⟨Nat.le_of_ble_eq_true rfl, Nat.le_of_ble_eq_true rfl⟩) hK hNW hP hD hS hA rfl rfl rfl rfl (by decide) rfl rfl rfl rfl rfl rfl hl.1 rfl (Nat.le_of_ble_eq_true rfl) dX6_turnsOf_8 ⟨Nat.zero_le _, Nat.zero_le _⟩ (fun H locs hP hD hS => ?_)
  refine li_top (b := 0) rfl ?_
  refine li_if_eq_t (tgt := 26) hx hb dX6_turnsOf_11 (by decide) (by decide) (by decide) ?_
  refine li_const hx hb dX6_turnsOf_26 ?_
  exact li_iret () hx hb hr hlocks hK hP hD hS dX6_turnsOf_27 hQ rfl (congrArg iI (rfl))

set_option maxRecDepth 100000 in
set_option maxHeartbeats 4000000 in
theorem c_X6_placeOf_ok {l : Launch} {D : va_G} {cI cZ cJ : ClassId} (n : Int) (L : Int) (a : Int) (rn : Int) (sp : Int) (cnt : Int) (th : Int) (w : Wt) (op : Int → Int) (tn : Int → Int) (pl : Int → Int) (en : Int) (kd : Int → Int) (nb : Int → Int) (as : Int → Int) (ln : Int → Int) (dr : Int → Int) (M0 M1 M2 M3 M4 : Nat) (x : Int) (hcnt : 0 ≤ cnt ∧ cnt ≤ 10) (i_x : -2147483648 ≤ x ∧ x < 2147483648) (hv : 0 ≤ x ∧ x ≤ cnt - 1) : Di l yX6_placeOf wsX6_placeOf 25 [.ref M0, .int (iI x)] D (ty3 cI cZ cJ) (cMd cI n L a rn sp cnt th (rowF w op tn pl en kd nb) as ln dr M0 M1 M2 M3 M4) (pl x) (cMd cI n L a rn sp cnt 0 (rowF w op tn pl en kd nb) as ln dr M0 M1 M2 M3 M4) := by
  refine ct_i (plainFor_of_name (by decide)) rfl (Nat.le_of_ble_eq_true rfl) ?_
  intro p e s mI args below meth c_0 ls A hx hb hr hml hts hown hlocks hin hA hP hK hD hNW hS hl Q hQ
  have hown : s.vm.findClass RX6 = some mI.cls := hown
  have hl : lv_has ls 2 [(0, .ref M0), (1, .int (iI x))] := hl
  have hin_X6 : ∀ w ∈ wsX60, w ∈ wsX6_placeOf := by decide +kernel
  have hf_9 := hts (.fieldLink RX6 9 "LockStaircaseModel" "row" "[I") (by decide +kernel)
  refine lv_aload_n hx hb dX6_placeOf_0 rfl (lv_at hl 0 rfl) ?_
  refine lv_aload_n hx hb dX6_placeOf_1 rfl (lv_at hl 0 rfl) ?_
  refine lv_iload_n hx hb dX6_placeOf_2 rfl (lv_at hl 1 rfl) ?_
  refine cl_i0 (isC := [0, 1, 2, 3, 4]) (isR := []) (isN := [0, 1, 2, 3, 4]) (wr := []) (wn := cMd cI n L a rn sp cnt th (rowF w op tn pl en kd nb) as ln dr M0 M1 M2 M3 M4) (As := [.int (iI x)]) (rest := [.ref M0]) (r := bz (0 ≤ x ∧ x ≤ cnt - 1)) (ci := 6) (q0 := 0) ⟨hx, hb, hml, hown, hts⟩ (c_X6_isBoat n L a rn sp cnt th w op tn pl en kd nb as ln dr M0 M1 M2 M3 M4 x (by first | assumption | omega) (by first | assumption | omega)) (cwV 1 hts gX6_placeOf_X6_isBoat rfl rfl rfl (by decide +kernel) ⟨Nat.le_of_ble_eq_true rfl, Nat.le_of_ble_eq_true rfl⟩) hK hNW hP hD hS hA rfl rfl rfl rfl (by decide) rfl rfl rfl rfl rfl rfl hl.1 rfl (Nat.le_of_ble_eq_true rfl) dX6_placeOf_3 ⟨Nat.zero_le _, Nat.zero_le _⟩ (fun H locs hP hD hS => ?_)
  refine li_top (b := 1) (bz_t (by exact hv)) ?_
  refine li_const hx hb dX6_placeOf_6 ?_
  refine li_const hx hb dX6_placeOf_7 ?_
  refine cl_i0 (isC := [0, 1, 2, 3, 4]) (isR := []) (isN := [0, 1, 2, 3, 4]) (wr := []) (wn := cMd cI n L a rn sp cnt (chA 1 1 1) (rowF w op tn pl en kd nb) as ln dr M0 M1 M2 M3 M4) (As := [.int (iI 1), .int (iI 1), .int (iI 1)]) (rest := []) (r := bz (chA 1 1 1 = 0)) (ci := 6) (q0 := 0) ⟨hx, hb, hml, hown, hts⟩ (c_X6_check n L a rn sp cnt th w op tn pl en kd nb as ln dr M0 M1 M2 M3 M4 1 1 1 (by first | decide | exact bz_01 _ | omega) (by first | decide | exact bz_01 _ | omega) (by first | decide | exact bz_01 _ | omega)) (cwV 3 hts gX6_placeOf_X6_check rfl rfl rfl (by decide +kernel) ⟨Nat.le_of_ble_eq_true rfl, Nat.le_of_ble_eq_true rfl⟩) hK hNW hP hD hS hA rfl rfl rfl rfl (by decide) rfl rfl rfl rfl rfl rfl hl.1 rfl (Nat.le_of_ble_eq_true rfl) dX6_placeOf_8 ⟨Nat.zero_le _, Nat.zero_le _⟩ (fun H locs hP hD hS => ?_)
  refine li_top (b := 1) rfl ?_
  refine li_if_eq_f (tgt := 26) hx hb dX6_placeOf_11 (by decide) (by decide) (by decide) ?_
  refine lv_aload_n hx hb dX6_placeOf_14 rfl (lv_at hl 0 rfl) ?_
  refine li_get (ci := 6) (v := .ref M1) (C := RX6) (T := TX6) (N := 11) (q0 := 0) (k := 5) hx hb hts hin_X6 hown hK hP rfl rfl (by decide) hf_9 rfl rfl dX6_placeOf_15 ?_
  refine li_bipush hx hb dX6_placeOf_18 (by decide) ?_
  refine lv_iload_n hx hb dX6_placeOf_20 rfl (lv_at hl 1 rfl) ?_
  refine li_add hx hb dX6_placeOf_21 ?_
  refine li_iald (q0 := 1) (t0 := 0) (g := (rowF w op tn pl en kd nb)) hx hb hK hP rfl rfl (by omega) (by omega) (ib_i (by omega) (by omega)) dX6_placeOf_22 ?_
  refine li_top (b := pl x) (rd_p (c := x) (by omega) (by omega) (by omega)) ?_
  refine lv_goto (tgt := 27) hx hb dX6_placeOf_23 (by decide) ?_
  exact li_iret () hx hb hr hlocks hK hP hD hS dX6_placeOf_27 hQ rfl (congrArg iI (rfl))

set_option maxRecDepth 100000 in
set_option maxHeartbeats 4000000 in
theorem c_X6_placeOf_no {l : Launch} {D : va_G} {cI cZ cJ : ClassId} (n : Int) (L : Int) (a : Int) (rn : Int) (sp : Int) (cnt : Int) (th : Int) (w : Wt) (op : Int → Int) (tn : Int → Int) (pl : Int → Int) (en : Int) (kd : Int → Int) (nb : Int → Int) (as : Int → Int) (ln : Int → Int) (dr : Int → Int) (M0 M1 M2 M3 M4 : Nat) (x : Int) (hcnt : 0 ≤ cnt ∧ cnt ≤ 10) (i_x : -2147483648 ≤ x ∧ x < 2147483648) (hv : ¬ (0 ≤ x ∧ x ≤ cnt - 1)) : Di l yX6_placeOf wsX6_placeOf 25 [.ref M0, .int (iI x)] D (ty3 cI cZ cJ) (cMd cI n L a rn sp cnt th (rowF w op tn pl en kd nb) as ln dr M0 M1 M2 M3 M4) (0) (cMd cI n L a rn sp cnt 1 (rowF w op tn pl en kd nb) as ln dr M0 M1 M2 M3 M4) := by
  refine ct_i (plainFor_of_name (by decide)) rfl (Nat.le_of_ble_eq_true rfl) ?_
  intro p e s mI args below meth c_0 ls A hx hb hr hml hts hown hlocks hin hA hP hK hD hNW hS hl Q hQ
  have hown : s.vm.findClass RX6 = some mI.cls := hown
  have hl : lv_has ls 2 [(0, .ref M0), (1, .int (iI x))] := hl
  refine lv_aload_n hx hb dX6_placeOf_0 rfl (lv_at hl 0 rfl) ?_
  refine lv_aload_n hx hb dX6_placeOf_1 rfl (lv_at hl 0 rfl) ?_
  refine lv_iload_n hx hb dX6_placeOf_2 rfl (lv_at hl 1 rfl) ?_
  refine cl_i0 (isC := [0, 1, 2, 3, 4]) (isR := []) (isN := [0, 1, 2, 3, 4]) (wr := []) (wn := cMd cI n L a rn sp cnt th (rowF w op tn pl en kd nb) as ln dr M0 M1 M2 M3 M4) (As := [.int (iI x)]) (rest := [.ref M0]) (r := bz (0 ≤ x ∧ x ≤ cnt - 1)) (ci := 6) (q0 := 0) ⟨hx, hb, hml, hown, hts⟩ (c_X6_isBoat n L a rn sp cnt th w op tn pl en kd nb as ln dr M0 M1 M2 M3 M4 x (by first | assumption | omega) (by first | assumption | omega)) (cwV 1 hts gX6_placeOf_X6_isBoat rfl rfl rfl (by decide +kernel) ⟨Nat.le_of_ble_eq_true rfl, Nat.le_of_ble_eq_true rfl⟩) hK hNW hP hD hS hA rfl rfl rfl rfl (by decide) rfl rfl rfl rfl rfl rfl hl.1 rfl (Nat.le_of_ble_eq_true rfl) dX6_placeOf_3 ⟨Nat.zero_le _, Nat.zero_le _⟩ (fun H locs hP hD hS => ?_)
  refine li_top (b := 0) (bz_f (by exact hv)) ?_
  refine li_const hx hb dX6_placeOf_6 ?_
  refine li_const hx hb dX6_placeOf_7 ?_
  refine cl_i0 (isC := [0, 1, 2, 3, 4]) (isR := []) (isN := [0, 1, 2, 3, 4]) (wr := []) (wn := cMd cI n L a rn sp cnt (chA 0 1 1) (rowF w op tn pl en kd nb) as ln dr M0 M1 M2 M3 M4) (As := [.int (iI 0), .int (iI 1), .int (iI 1)]) (rest := []) (r := bz (chA 0 1 1 = 0)) (ci := 6) (q0 := 0) ⟨hx, hb, hml, hown, hts⟩ (c_X6_check n L a rn sp cnt th w op tn pl en kd nb as ln dr M0 M1 M2 M3 M4 0 1 1 (by first | decide | exact bz_01 _ | omega) (by first | decide | exact bz_01 _ | omega) (by first | decide | exact bz_01 _ | omega)) (cwV 3 hts gX6_placeOf_X6_check rfl rfl rfl (by decide +kernel) ⟨Nat.le_of_ble_eq_true rfl, Nat.le_of_ble_eq_true rfl⟩) hK hNW hP hD hS hA rfl rfl rfl rfl (by decide) rfl rfl rfl rfl rfl rfl hl.1 rfl (Nat.le_of_ble_eq_true rfl) dX6_placeOf_8 ⟨Nat.zero_le _, Nat.zero_le _⟩ (fun H locs hP hD hS => ?_)
  refine li_top (b := 0) rfl ?_
  refine li_if_eq_t (tgt := 26) hx hb dX6_placeOf_11 (by decide) (by decide) (by decide) ?_
  refine li_const hx hb dX6_placeOf_26 ?_
  exact li_iret () hx hb hr hlocks hK hP hD hS dX6_placeOf_27 hQ rfl (congrArg iI (rfl))

set_option maxRecDepth 100000 in
set_option maxHeartbeats 4000000 in
theorem c_X6_boatsAt_ok {l : Launch} {D : va_G} {cI cZ cJ : ClassId} (n : Int) (L : Int) (a : Int) (rn : Int) (sp : Int) (cnt : Int) (th : Int) (w : Wt) (op : Int → Int) (tn : Int → Int) (pl : Int → Int) (en : Int) (kd : Int → Int) (nb : Int → Int) (as : Int → Int) (ln : Int → Int) (dr : Int → Int) (M0 M1 M2 M3 M4 : Nat) (x : Int) (hn : 1 ≤ n ∧ n ≤ 6) (hL : 5 ≤ L ∧ L ≤ 40) (ha : 1 ≤ a ∧ a ≤ 50) (hcnt : 0 ≤ cnt ∧ cnt ≤ 10) (hpi : plI n pl) (i_x : -2147483648 ≤ x ∧ x < 2147483648) (hv : 0 ≤ x ∧ x ≤ n + 1) : Di l yX6_boatsAt wsX6_boatsAt 25 [.ref M0, .int (iI x)] D (ty3 cI cZ cJ) (cMd cI n L a rn sp cnt th (rowF w op tn pl en kd nb) as ln dr M0 M1 M2 M3 M4) (sumZ (cntP pl x) cnt.toNat) (cMd cI n L a rn sp cnt 0 (rowF w op tn pl en kd nb) as ln dr M0 M1 M2 M3 M4) := by
  refine ct_i (plainFor_of_name (by decide)) rfl (Nat.le_of_ble_eq_true rfl) ?_
  intro p e s mI args below meth c_0 ls A hx hb hr hml hts hown hlocks hin hA hP hK hD hNW hS hl Q hQ
  have hown : s.vm.findClass RX6 = some mI.cls := hown
  have hl : lv_has ls 4 [(0, .ref M0), (1, .int (iI x))] := hl
  have hin_X6 : ∀ w ∈ wsX60, w ∈ wsX6_boatsAt := by decide +kernel
  have hf_56 := hts (.fieldLink RX6 56 "LockStaircaseModel" "boats" "I") (by decide +kernel)
  have hf_9 := hts (.fieldLink RX6 9 "LockStaircaseModel" "row" "[I") (by decide +kernel)
  refine lv_aload_n hx hb dX6_boatsAt_0 rfl (lv_at hl 0 rfl) ?_
  refine lv_aload_n hx hb dX6_boatsAt_1 rfl (lv_at hl 0 rfl) ?_
  refine lv_iload_n hx hb dX6_boatsAt_2 rfl (lv_at hl 1 rfl) ?_
  refine cl_i0 (isC := [0, 1, 2, 3, 4]) (isR := []) (isN := [0, 1, 2, 3, 4]) (wr := []) (wn := cMd cI n L a rn sp cnt th (rowF w op tn pl en kd nb) as ln dr M0 M1 M2 M3 M4) (As := [.int (iI x)]) (rest := [.ref M0]) (r := bz (0 ≤ x ∧ x ≤ n + 1)) (ci := 6) (q0 := 0) ⟨hx, hb, hml, hown, hts⟩ (c_X6_isPlace n L a rn sp cnt th w op tn pl en kd nb as ln dr M0 M1 M2 M3 M4 x (by first | assumption | omega) (by first | assumption | omega) (by first | assumption | omega) (by first | assumption | omega)) (cwV 1 hts gX6_boatsAt_X6_isPlace rfl rfl rfl (by decide +kernel) ⟨Nat.le_of_ble_eq_true rfl, Nat.le_of_ble_eq_true rfl⟩) hK hNW hP hD hS hA rfl rfl rfl rfl (by decide) rfl rfl rfl rfl rfl rfl hl.1 rfl (Nat.le_of_ble_eq_true rfl) dX6_boatsAt_3 ⟨Nat.zero_le _, Nat.zero_le _⟩ (fun H locs hP hD hS => ?_)
  refine li_top (b := 1) (bz_t (by exact hv)) ?_
  refine li_const hx hb dX6_boatsAt_6 ?_
  refine li_const hx hb dX6_boatsAt_7 ?_
  refine cl_i0 (isC := [0, 1, 2, 3, 4]) (isR := []) (isN := [0, 1, 2, 3, 4]) (wr := []) (wn := cMd cI n L a rn sp cnt (chA 1 1 1) (rowF w op tn pl en kd nb) as ln dr M0 M1 M2 M3 M4) (As := [.int (iI 1), .int (iI 1), .int (iI 1)]) (rest := []) (r := bz (chA 1 1 1 = 0)) (ci := 6) (q0 := 0) ⟨hx, hb, hml, hown, hts⟩ (c_X6_check n L a rn sp cnt th w op tn pl en kd nb as ln dr M0 M1 M2 M3 M4 1 1 1 (by first | decide | exact bz_01 _ | omega) (by first | decide | exact bz_01 _ | omega) (by first | decide | exact bz_01 _ | omega)) (cwV 3 hts gX6_boatsAt_X6_check rfl rfl rfl (by decide +kernel) ⟨Nat.le_of_ble_eq_true rfl, Nat.le_of_ble_eq_true rfl⟩) hK hNW hP hD hS hA rfl rfl rfl rfl (by decide) rfl rfl rfl rfl rfl rfl hl.1 rfl (Nat.le_of_ble_eq_true rfl) dX6_boatsAt_8 ⟨Nat.zero_le _, Nat.zero_le _⟩ (fun H locs hP hD hS => ?_)
  refine li_top (b := 1) rfl ?_
  refine li_if_ne_t (tgt := 16) hx hb dX6_boatsAt_11 (by decide) (by decide) (by decide) ?_
  refine li_const hx hb dX6_boatsAt_16 ?_
  refine lv_istore_n (lv' := [(2, .int (iI 0)), (0, .ref M0), (1, .int (iI x))]) hx hb dX6_boatsAt_17 rfl hl (by decide) rfl (fun ls hl => ?_)
  refine li_const hx hb dX6_boatsAt_18 ?_
  refine lv_istore_n (lv' := [(3, .int (iI 0)), (2, .int (iI 0)), (0, .ref M0), (1, .int (iI x))]) hx hb dX6_boatsAt_19 rfl hl (by decide) rfl (fun ls hl => ?_)
  have loop_20 : ∀ (N : Nat) (j : Int) (sv : Int), (0 ≤ j ∧ j ≤ cnt) → (sv = sumZ (cntP pl x) j.toNat) → cnt - j < (N : Int) → ∀ (H : Heap) (locs : List Loc), va_P D vwCl (cMd cI n L a rn sp cnt 0 (rowF w op tn pl en kd nb) as ln dr M0 M1 M2 M3 M4) H → va_D A (cMd cI n L a rn sp cnt 0 (rowF w op tn pl en kd nb) as ln dr M0 M1 M2 M3 M4) → va_S A s.heap H locs → ∀ (ls : Array Slot), lv_has ls 4 [(3, .int (iI j)), (2, .int (iI sv)), (0, .ref M0), (1, .int (iI x))] → W p l e (rK 25 0 0) s mI args below meth c_0 H locs 0 0 Q (F0 mI 20 ls []) := by
    intro N
    induction N with
    | zero =>
      intro j sv hj hh hN
      exact absurd hN (by omega)
    | succ N ih =>
      intro j sv hj hh hN H locs hP hD hS ls hl
      have hp := hpi j
      refine lv_iload_n hx hb dX6_boatsAt_20 rfl (lv_at hl 0 rfl) ?_
      refine lv_aload_n hx hb dX6_boatsAt_21 rfl (lv_at hl 2 rfl) ?_
      refine li_get (ci := 6) (v := .int (iI cnt)) (C := RX6) (T := TX6) (N := 11) (q0 := 0) (k := 9) hx hb hts hin_X6 hown hK hP rfl rfl (by decide) hf_56 rfl rfl dX6_boatsAt_22 ?_
      refine li_icmp_ge (tgt := 55) hx hb dX6_boatsAt_25 (by decide) (ib_i (by omega) (by omega)) (ib_i (by omega) (by omega)) (fun c_25 => ?_) (fun c_25 => ?_)
      · refine lv_iload_n hx hb dX6_boatsAt_55 rfl (lv_at hl 1 rfl) ?_
        exact li_iret () hx hb hr hlocks hK hP hD hS dX6_boatsAt_56 hQ rfl (congrArg iI (by rw [hh, show j = cnt by omega]))
      · refine lv_iload_n hx hb dX6_boatsAt_28 rfl (lv_at hl 1 rfl) ?_
        refine lv_aload_n hx hb dX6_boatsAt_29 rfl (lv_at hl 2 rfl) ?_
        refine li_get (ci := 6) (v := .ref M1) (C := RX6) (T := TX6) (N := 11) (q0 := 0) (k := 5) hx hb hts hin_X6 hown hK hP rfl rfl (by decide) hf_9 rfl rfl dX6_boatsAt_30 ?_
        refine li_bipush hx hb dX6_boatsAt_33 (by decide) ?_
        refine lv_iload_n hx hb dX6_boatsAt_35 rfl (lv_at hl 0 rfl) ?_
        refine li_add hx hb dX6_boatsAt_36 ?_
        refine li_iald (q0 := 1) (t0 := 0) (g := (rowF w op tn pl en kd nb)) hx hb hK hP rfl rfl (by omega) (by omega) (ib_i (by omega) (by omega)) dX6_boatsAt_37 ?_
        refine li_top (b := pl j) (rd_p (c := j) (by omega) (by omega) (by omega)) ?_
        refine lv_iload_n hx hb dX6_boatsAt_38 rfl (lv_at hl 3 rfl) ?_
        refine li_icmp_ne (tgt := 46) hx hb dX6_boatsAt_39 (by decide) (ib_i (by omega) (by omega)) (ib_i (by omega) (by omega)) (fun c_39 => ?_) (fun c_39 => ?_)
        · refine li_const hx hb dX6_boatsAt_46 ?_
          refine li_add hx hb dX6_boatsAt_47 ?_
          refine lv_istore_n (lv' := [(2, .int (iI (sv + 0))), (3, .int (iI j)), (0, .ref M0), (1, .int (iI x))]) hx hb dX6_boatsAt_48 rfl hl (by decide) rfl (fun ls hl => ?_)
          refine li_inc (j := 1) (lv' := [(3, .int (iI (j + 1))), (2, .int (iI (sv + 0))), (0, .ref M0), (1, .int (iI x))]) hx hb dX6_boatsAt_49 hl rfl (by decide) rfl (fun ls hl => ?_)
          refine lv_goto (tgt := 20) hx hb dX6_boatsAt_52 (by decide) ?_
          exact ih (j + 1) (sv + 0) (by omega) (by rw [sumZ_s _ hj.1]; first | (rw [show cntP pl x j = 1 from if_pos (by omega)]; omega) | (rw [show cntP pl x j = 0 from if_neg (by omega)]; omega)) (by omega) _ _ hP hD hS _ (lv_sub hl [0, 1, 2, 3] rfl)
        · refine li_const hx hb dX6_boatsAt_42 ?_
          refine lv_goto (tgt := 47) hx hb dX6_boatsAt_43 (by decide) ?_
          refine li_add hx hb dX6_boatsAt_47 ?_
          refine lv_istore_n (lv' := [(2, .int (iI (sv + 1))), (3, .int (iI j)), (0, .ref M0), (1, .int (iI x))]) hx hb dX6_boatsAt_48 rfl hl (by decide) rfl (fun ls hl => ?_)
          refine li_inc (j := 1) (lv' := [(3, .int (iI (j + 1))), (2, .int (iI (sv + 1))), (0, .ref M0), (1, .int (iI x))]) hx hb dX6_boatsAt_49 hl rfl (by decide) rfl (fun ls hl => ?_)
          refine lv_goto (tgt := 20) hx hb dX6_boatsAt_52 (by decide) ?_
          exact ih (j + 1) (sv + 1) (by omega) (by rw [sumZ_s _ hj.1]; first | (rw [show cntP pl x j = 1 from if_pos (by omega)]; omega) | (rw [show cntP pl x j = 0 from if_neg (by omega)]; omega)) (by omega) _ _ hP hD hS _ (lv_sub hl [0, 1, 2, 3] rfl)
  exact loop_20 (((cnt - 0) : Int) + 1).toNat 0 0 (by omega) (by rfl) (by omega) _ _ hP hD hS _ (lv_sub hl [0, 1, 2, 3] rfl)

set_option maxRecDepth 100000 in
set_option maxHeartbeats 4000000 in
theorem c_X6_boatsAt_no {l : Launch} {D : va_G} {cI cZ cJ : ClassId} (n : Int) (L : Int) (a : Int) (rn : Int) (sp : Int) (cnt : Int) (th : Int) (w : Wt) (op : Int → Int) (tn : Int → Int) (pl : Int → Int) (en : Int) (kd : Int → Int) (nb : Int → Int) (as : Int → Int) (ln : Int → Int) (dr : Int → Int) (M0 M1 M2 M3 M4 : Nat) (x : Int) (hn : 1 ≤ n ∧ n ≤ 6) (hL : 5 ≤ L ∧ L ≤ 40) (ha : 1 ≤ a ∧ a ≤ 50) (hcnt : 0 ≤ cnt ∧ cnt ≤ 10) (hpi : plI n pl) (i_x : -2147483648 ≤ x ∧ x < 2147483648) (hv : ¬ (0 ≤ x ∧ x ≤ n + 1)) : Di l yX6_boatsAt wsX6_boatsAt 25 [.ref M0, .int (iI x)] D (ty3 cI cZ cJ) (cMd cI n L a rn sp cnt th (rowF w op tn pl en kd nb) as ln dr M0 M1 M2 M3 M4) (0) (cMd cI n L a rn sp cnt 1 (rowF w op tn pl en kd nb) as ln dr M0 M1 M2 M3 M4) := by
  refine ct_i (plainFor_of_name (by decide)) rfl (Nat.le_of_ble_eq_true rfl) ?_
  intro p e s mI args below meth c_0 ls A hx hb hr hml hts hown hlocks hin hA hP hK hD hNW hS hl Q hQ
  have hown : s.vm.findClass RX6 = some mI.cls := hown
  have hl : lv_has ls 4 [(0, .ref M0), (1, .int (iI x))] := hl
  refine lv_aload_n hx hb dX6_boatsAt_0 rfl (lv_at hl 0 rfl) ?_
  refine lv_aload_n hx hb dX6_boatsAt_1 rfl (lv_at hl 0 rfl) ?_
  refine lv_iload_n hx hb dX6_boatsAt_2 rfl (lv_at hl 1 rfl) ?_
  refine cl_i0 (isC := [0, 1, 2, 3, 4]) (isR := []) (isN := [0, 1, 2, 3, 4]) (wr := []) (wn := cMd cI n L a rn sp cnt th (rowF w op tn pl en kd nb) as ln dr M0 M1 M2 M3 M4) (As := [.int (iI x)]) (rest := [.ref M0]) (r := bz (0 ≤ x ∧ x ≤ n + 1)) (ci := 6) (q0 := 0) ⟨hx, hb, hml, hown, hts⟩ (c_X6_isPlace n L a rn sp cnt th w op tn pl en kd nb as ln dr M0 M1 M2 M3 M4 x (by first | assumption | omega) (by first | assumption | omega) (by first | assumption | omega) (by first | assumption | omega)) (cwV 1 hts gX6_boatsAt_X6_isPlace rfl rfl rfl (by decide +kernel) ⟨Nat.le_of_ble_eq_true rfl, Nat.le_of_ble_eq_true rfl⟩) hK hNW hP hD hS hA rfl rfl rfl rfl (by decide) rfl rfl rfl rfl rfl rfl hl.1 rfl (Nat.le_of_ble_eq_true rfl) dX6_boatsAt_3 ⟨Nat.zero_le _, Nat.zero_le _⟩ (fun H locs hP hD hS => ?_)
  refine li_top (b := 0) (bz_f (by exact hv)) ?_
  refine li_const hx hb dX6_boatsAt_6 ?_
  refine li_const hx hb dX6_boatsAt_7 ?_
  refine cl_i0 (isC := [0, 1, 2, 3, 4]) (isR := []) (isN := [0, 1, 2, 3, 4]) (wr := []) (wn := cMd cI n L a rn sp cnt (chA 0 1 1) (rowF w op tn pl en kd nb) as ln dr M0 M1 M2 M3 M4) (As := [.int (iI 0), .int (iI 1), .int (iI 1)]) (rest := []) (r := bz (chA 0 1 1 = 0)) (ci := 6) (q0 := 0) ⟨hx, hb, hml, hown, hts⟩ (c_X6_check n L a rn sp cnt th w op tn pl en kd nb as ln dr M0 M1 M2 M3 M4 0 1 1 (by first | decide | exact bz_01 _ | omega) (by first | decide | exact bz_01 _ | omega) (by first | decide | exact bz_01 _ | omega)) (cwV 3 hts gX6_boatsAt_X6_check rfl rfl rfl (by decide +kernel) ⟨Nat.le_of_ble_eq_true rfl, Nat.le_of_ble_eq_true rfl⟩) hK hNW hP hD hS hA rfl rfl rfl rfl (by decide) rfl rfl rfl rfl rfl rfl hl.1 rfl (Nat.le_of_ble_eq_true rfl) dX6_boatsAt_8 ⟨Nat.zero_le _, Nat.zero_le _⟩ (fun H locs hP hD hS => ?_)
  refine li_top (b := 0) rfl ?_
  refine li_if_ne_f (tgt := 16) hx hb dX6_boatsAt_11 (by decide) (by decide) (by decide) ?_
  refine li_const hx hb dX6_boatsAt_14 ?_
  exact li_iret () hx hb hr hlocks hK hP hD hS dX6_boatsAt_15 hQ rfl (congrArg iI (rfl))

set_option maxRecDepth 100000 in
set_option maxHeartbeats 4000000 in
theorem c_X6_freeLength_ok {l : Launch} {D : va_G} {cI cZ cJ : ClassId} (n : Int) (L : Int) (a : Int) (rn : Int) (sp : Int) (cnt : Int) (th : Int) (w : Wt) (op : Int → Int) (tn : Int → Int) (pl : Int → Int) (en : Int) (kd : Int → Int) (nb : Int → Int) (as : Int → Int) (ln : Int → Int) (dr : Int → Int) (M0 M1 M2 M3 M4 : Nat) (x : Int) (hn : 1 ≤ n ∧ n ≤ 6) (hL : 5 ≤ L ∧ L ≤ 40) (ha : 1 ≤ a ∧ a ≤ 50) (hcnt : 0 ≤ cnt ∧ cnt ≤ 10) (hpi : plI n pl) (hln : lnB ln) (hdr : lnB dr) (i_x : -2147483648 ≤ x ∧ x < 2147483648) (hv : 0 ≤ x ∧ x ≤ n - 1) : Di l yX6_freeLength wsX6_freeLength 25 [.ref M0, .int (iI x)] D (ty3 cI cZ cJ) (cMd cI n L a rn sp cnt th (rowF w op tn pl en kd nb) as ln dr M0 M1 M2 M3 M4) (60 - sumZ (lenP pl ln (x + 1)) cnt.toNat) (cMd cI n L a rn sp cnt 0 (rowF w op tn pl en kd nb) as ln dr M0 M1 M2 M3 M4) := by
  refine ct_i (plainFor_of_name (by decide)) rfl (Nat.le_of_ble_eq_true rfl) ?_
  intro p e s mI args below meth c_0 ls A hx hb hr hml hts hown hlocks hin hA hP hK hD hNW hS hl Q hQ
  have hown : s.vm.findClass RX6 = some mI.cls := hown
  have hl : lv_has ls 2 [(0, .ref M0), (1, .int (iI x))] := hl
  refine lv_aload_n hx hb dX6_freeLength_0 rfl (lv_at hl 0 rfl) ?_
  refine lv_aload_n hx hb dX6_freeLength_1 rfl (lv_at hl 0 rfl) ?_
  refine lv_iload_n hx hb dX6_freeLength_2 rfl (lv_at hl 1 rfl) ?_
  refine cl_i0 (isC := [0, 1, 2, 3, 4]) (isR := []) (isN := [0, 1, 2, 3, 4]) (wr := []) (wn := cMd cI n L a rn sp cnt th (rowF w op tn pl en kd nb) as ln dr M0 M1 M2 M3 M4) (As := [.int (iI x)]) (rest := [.ref M0]) (r := bz (0 ≤ x ∧ x ≤ n - 1)) (ci := 6) (q0 := 0) ⟨hx, hb, hml, hown, hts⟩ (c_X6_isChamber n L a rn sp cnt th w op tn pl en kd nb as ln dr M0 M1 M2 M3 M4 x (by first | assumption | omega) (by first | assumption | omega) (by first | assumption | omega) (by first | assumption | omega)) (cwV 1 hts gX6_freeLength_X6_isChamber rfl rfl rfl (by decide +kernel) ⟨Nat.le_of_ble_eq_true rfl, Nat.le_of_ble_eq_true rfl⟩) hK hNW hP hD hS hA rfl rfl rfl rfl (by decide) rfl rfl rfl rfl rfl rfl hl.1 rfl (Nat.le_of_ble_eq_true rfl) dX6_freeLength_3 ⟨Nat.zero_le _, Nat.zero_le _⟩ (fun H locs hP hD hS => ?_)
  refine li_top (b := 1) (bz_t (by exact hv)) ?_
  refine li_const hx hb dX6_freeLength_6 ?_
  refine li_const hx hb dX6_freeLength_7 ?_
  refine cl_i0 (isC := [0, 1, 2, 3, 4]) (isR := []) (isN := [0, 1, 2, 3, 4]) (wr := []) (wn := cMd cI n L a rn sp cnt (chA 1 1 1) (rowF w op tn pl en kd nb) as ln dr M0 M1 M2 M3 M4) (As := [.int (iI 1), .int (iI 1), .int (iI 1)]) (rest := []) (r := bz (chA 1 1 1 = 0)) (ci := 6) (q0 := 0) ⟨hx, hb, hml, hown, hts⟩ (c_X6_check n L a rn sp cnt th w op tn pl en kd nb as ln dr M0 M1 M2 M3 M4 1 1 1 (by first | decide | exact bz_01 _ | omega) (by first | decide | exact bz_01 _ | omega) (by first | decide | exact bz_01 _ | omega)) (cwV 3 hts gX6_freeLength_X6_check rfl rfl rfl (by decide +kernel) ⟨Nat.le_of_ble_eq_true rfl, Nat.le_of_ble_eq_true rfl⟩) hK hNW hP hD hS hA rfl rfl rfl rfl (by decide) rfl rfl rfl rfl rfl rfl hl.1 rfl (Nat.le_of_ble_eq_true rfl) dX6_freeLength_8 ⟨Nat.zero_le _, Nat.zero_le _⟩ (fun H locs hP hD hS => ?_)
  refine li_top (b := 1) rfl ?_
  refine li_if_eq_f (tgt := 25) hx hb dX6_freeLength_11 (by decide) (by decide) (by decide) ?_
  refine li_bipush hx hb dX6_freeLength_14 (by decide) ?_
  refine lv_aload_n hx hb dX6_freeLength_16 rfl (lv_at hl 0 rfl) ?_
  refine lv_iload_n hx hb dX6_freeLength_17 rfl (lv_at hl 1 rfl) ?_
  refine cl_i0 (isC := [0, 1, 2, 3, 4]) (isR := []) (isN := [0, 1, 2, 3, 4]) (wr := []) (wn := cMd cI n L a rn sp cnt 0 (rowF w op tn pl en kd nb) as ln dr M0 M1 M2 M3 M4) (As := [.int (iI x)]) (rest := [.int (iI 60)]) (r := sumZ (lenP pl ln (x + 1)) cnt.toNat) (ci := 6) (q0 := 0) ⟨hx, hb, hml, hown, hts⟩ (c_X6_lengthIn n L a rn sp cnt 0 w op tn pl en kd nb as ln dr M0 M1 M2 M3 M4 x (by first | assumption | omega) (by first | assumption | omega) (by first | assumption | omega) (by first | assumption | omega) (by first | assumption | omega) (by first | assumption | omega)) (cwV 1 hts gX6_freeLength_X6_lengthIn rfl rfl rfl (by decide +kernel) ⟨Nat.le_of_ble_eq_true rfl, Nat.le_of_ble_eq_true rfl⟩) hK hNW hP hD hS hA rfl rfl rfl rfl (by decide) rfl rfl rfl rfl rfl rfl hl.1 rfl (Nat.le_of_ble_eq_true rfl) dX6_freeLength_18 ⟨Nat.zero_le _, Nat.zero_le _⟩ (fun H locs hP hD hS => ?_)
  refine li_sub hx hb dX6_freeLength_21 ?_
  refine lv_goto (tgt := 26) hx hb dX6_freeLength_22 (by decide) ?_
  exact li_iret () hx hb hr hlocks hK hP hD hS dX6_freeLength_26 hQ rfl (congrArg iI (rfl))

set_option maxRecDepth 100000 in
set_option maxHeartbeats 4000000 in
theorem c_X6_freeLength_no {l : Launch} {D : va_G} {cI cZ cJ : ClassId} (n : Int) (L : Int) (a : Int) (rn : Int) (sp : Int) (cnt : Int) (th : Int) (w : Wt) (op : Int → Int) (tn : Int → Int) (pl : Int → Int) (en : Int) (kd : Int → Int) (nb : Int → Int) (as : Int → Int) (ln : Int → Int) (dr : Int → Int) (M0 M1 M2 M3 M4 : Nat) (x : Int) (hn : 1 ≤ n ∧ n ≤ 6) (hL : 5 ≤ L ∧ L ≤ 40) (ha : 1 ≤ a ∧ a ≤ 50) (hcnt : 0 ≤ cnt ∧ cnt ≤ 10) (hpi : plI n pl) (hln : lnB ln) (hdr : lnB dr) (i_x : -2147483648 ≤ x ∧ x < 2147483648) (hv : ¬ (0 ≤ x ∧ x ≤ n - 1)) : Di l yX6_freeLength wsX6_freeLength 25 [.ref M0, .int (iI x)] D (ty3 cI cZ cJ) (cMd cI n L a rn sp cnt th (rowF w op tn pl en kd nb) as ln dr M0 M1 M2 M3 M4) (0) (cMd cI n L a rn sp cnt 1 (rowF w op tn pl en kd nb) as ln dr M0 M1 M2 M3 M4) := by
  refine ct_i (plainFor_of_name (by decide)) rfl (Nat.le_of_ble_eq_true rfl) ?_
  intro p e s mI args below meth c_0 ls A hx hb hr hml hts hown hlocks hin hA hP hK hD hNW hS hl Q hQ
  have hown : s.vm.findClass RX6 = some mI.cls := hown
  have hl : lv_has ls 2 [(0, .ref M0), (1, .int (iI x))] := hl
  refine lv_aload_n hx hb dX6_freeLength_0 rfl (lv_at hl 0 rfl) ?_
  refine lv_aload_n hx hb dX6_freeLength_1 rfl (lv_at hl 0 rfl) ?_
  refine lv_iload_n hx hb dX6_freeLength_2 rfl (lv_at hl 1 rfl) ?_
  refine cl_i0 (isC := [0, 1, 2, 3, 4]) (isR := []) (isN := [0, 1, 2, 3, 4]) (wr := []) (wn := cMd cI n L a rn sp cnt th (rowF w op tn pl en kd nb) as ln dr M0 M1 M2 M3 M4) (As := [.int (iI x)]) (rest := [.ref M0]) (r := bz (0 ≤ x ∧ x ≤ n - 1)) (ci := 6) (q0 := 0) ⟨hx, hb, hml, hown, hts⟩ (c_X6_isChamber n L a rn sp cnt th w op tn pl en kd nb as ln dr M0 M1 M2 M3 M4 x (by first | assumption | omega) (by first | assumption | omega) (by first | assumption | omega) (by first | assumption | omega)) (cwV 1 hts gX6_freeLength_X6_isChamber rfl rfl rfl (by decide +kernel) ⟨Nat.le_of_ble_eq_true rfl, Nat.le_of_ble_eq_true rfl⟩) hK hNW hP hD hS hA rfl rfl rfl rfl (by decide) rfl rfl rfl rfl rfl rfl hl.1 rfl (Nat.le_of_ble_eq_true rfl) dX6_freeLength_3 ⟨Nat.zero_le _, Nat.zero_le _⟩ (fun H locs hP hD hS => ?_)
  refine li_top (b := 0) (bz_f (by exact hv)) ?_
  refine li_const hx hb dX6_freeLength_6 ?_
  refine li_const hx hb dX6_freeLength_7 ?_
  refine cl_i0 (isC := [0, 1, 2, 3, 4]) (isR := []) (isN := [0, 1, 2, 3, 4]) (wr := []) (wn := cMd cI n L a rn sp cnt (chA 0 1 1) (rowF w op tn pl en kd nb) as ln dr M0 M1 M2 M3 M4) (As := [.int (iI 0), .int (iI 1), .int (iI 1)]) (rest := []) (r := bz (chA 0 1 1 = 0)) (ci := 6) (q0 := 0) ⟨hx, hb, hml, hown, hts⟩ (c_X6_check n L a rn sp cnt th w op tn pl en kd nb as ln dr M0 M1 M2 M3 M4 0 1 1 (by first | decide | exact bz_01 _ | omega) (by first | decide | exact bz_01 _ | omega) (by first | decide | exact bz_01 _ | omega)) (cwV 3 hts gX6_freeLength_X6_check rfl rfl rfl (by decide +kernel) ⟨Nat.le_of_ble_eq_true rfl, Nat.le_of_ble_eq_true rfl⟩) hK hNW hP hD hS hA rfl rfl rfl rfl (by decide) rfl rfl rfl rfl rfl rfl hl.1 rfl (Nat.le_of_ble_eq_true rfl) dX6_freeLength_8 ⟨Nat.zero_le _, Nat.zero_le _⟩ (fun H locs hP hD hS => ?_)
  refine li_top (b := 0) rfl ?_
  refine li_if_eq_t (tgt := 25) hx hb dX6_freeLength_11 (by decide) (by decide) (by decide) ?_
  refine li_const hx hb dX6_freeLength_25 ?_
  exact li_iret () hx hb hr hlocks hK hP hD hS dX6_freeLength_26 hQ rfl (congrArg iI (rfl))

set_option maxRecDepth 100000 in
set_option maxHeartbeats 4000000 in
theorem c_X6_moveObstacle_ok {l : Launch} {D : va_G} {cI cZ cJ : ClassId} (n : Int) (L : Int) (a : Int) (rn : Int) (sp : Int) (cnt : Int) (th : Int) (w : Wt) (op : Int → Int) (tn : Int → Int) (pl : Int → Int) (en : Int) (kd : Int → Int) (nb : Int → Int) (as : Int → Int) (ln : Int → Int) (dr : Int → Int) (M0 M1 M2 M3 M4 : Nat) (b : Int) (up : Int) (hn : 1 ≤ n ∧ n ≤ 6) (hL : 5 ≤ L ∧ L ≤ 40) (ha : 1 ≤ a ∧ a ≤ 50) (hw : WI n L a w) (hop : opB op) (hoz : ∀ g, n < g → op g = 0) (hcnt : 0 ≤ cnt ∧ cnt ≤ 10) (hln : lnB ln) (hdr : lnB dr) (hpi : plI n pl) (hup : up = 0 ∨ up = 1) (i_b : -2147483648 ≤ b ∧ b < 2147483648) (hv : 0 ≤ b ∧ b ≤ cnt - 1) : Di l yX6_moveObstacle wsX6_moveObstacle 25 [.ref M0, .int (iI b), .int (iI up)] D (ty3 cI cZ cJ) (cMd cI n L a rn sp cnt th (rowF w op tn pl en kd nb) as ln dr M0 M1 M2 M3 M4) (mvO n a w op cnt ln dr pl b up) (cMd cI n L a rn sp cnt 0 (rowF w op tn pl en kd nb) as ln dr M0 M1 M2 M3 M4) := by
  refine ct_i (plainFor_of_name (by decide)) rfl (Nat.le_of_ble_eq_true rfl) ?_
  intro p e s mI args below meth c_0 ls A hx hb hr hml hts hown hlocks hin hA hP hK hD hNW hS hl Q hQ
  have hown : s.vm.findClass RX6 = some mI.cls := hown
  have hl : lv_has ls 3 [(0, .ref M0), (1, .int (iI b)), (2, .int (iI up))] := hl
  refine lv_aload_n hx hb dX6_moveObstacle_0 rfl (lv_at hl 0 rfl) ?_
  refine lv_aload_n hx hb dX6_moveObstacle_1 rfl (lv_at hl 0 rfl) ?_
  refine lv_iload_n hx hb dX6_moveObstacle_2 rfl (lv_at hl 1 rfl) ?_
  refine cl_i0 (isC := [0, 1, 2, 3, 4]) (isR := []) (isN := [0, 1, 2, 3, 4]) (wr := []) (wn := cMd cI n L a rn sp cnt th (rowF w op tn pl en kd nb) as ln dr M0 M1 M2 M3 M4) (As := [.int (iI b)]) (rest := [.ref M0]) (r := bz (0 ≤ b ∧ b ≤ cnt - 1)) (ci := 6) (q0 := 0) ⟨hx, hb, hml, hown, hts⟩ (c_X6_isBoat n L a rn sp cnt th w op tn pl en kd nb as ln dr M0 M1 M2 M3 M4 b (by first | assumption | omega) (by first | assumption | omega)) (cwV 1 hts gX6_moveObstacle_X6_isBoat rfl rfl rfl (by decide +kernel) ⟨Nat.le_of_ble_eq_true rfl, Nat.le_of_ble_eq_true rfl⟩) hK hNW hP hD hS hA rfl rfl rfl rfl (by decide) rfl rfl rfl rfl rfl rfl hl.1 rfl (Nat.le_of_ble_eq_true rfl) dX6_moveObstacle_3 ⟨Nat.zero_le _, Nat.zero_le _⟩ (fun H locs hP hD hS => ?_)
  refine li_top (b := 1) (bz_t (by exact hv)) ?_
  refine li_const hx hb dX6_moveObstacle_6 ?_
  refine li_const hx hb dX6_moveObstacle_7 ?_
  refine cl_i0 (isC := [0, 1, 2, 3, 4]) (isR := []) (isN := [0, 1, 2, 3, 4]) (wr := []) (wn := cMd cI n L a rn sp cnt (chA 1 1 1) (rowF w op tn pl en kd nb) as ln dr M0 M1 M2 M3 M4) (As := [.int (iI 1), .int (iI 1), .int (iI 1)]) (rest := []) (r := bz (chA 1 1 1 = 0)) (ci := 6) (q0 := 0) ⟨hx, hb, hml, hown, hts⟩ (c_X6_check n L a rn sp cnt th w op tn pl en kd nb as ln dr M0 M1 M2 M3 M4 1 1 1 (by first | decide | exact bz_01 _ | omega) (by first | decide | exact bz_01 _ | omega) (by first | decide | exact bz_01 _ | omega)) (cwV 3 hts gX6_moveObstacle_X6_check rfl rfl rfl (by decide +kernel) ⟨Nat.le_of_ble_eq_true rfl, Nat.le_of_ble_eq_true rfl⟩) hK hNW hP hD hS hA rfl rfl rfl rfl (by decide) rfl rfl rfl rfl rfl rfl hl.1 rfl (Nat.le_of_ble_eq_true rfl) dX6_moveObstacle_8 ⟨Nat.zero_le _, Nat.zero_le _⟩ (fun H locs hP hD hS => ?_)
  refine li_top (b := 1) rfl ?_
  refine li_if_eq_f (tgt := 23) hx hb dX6_moveObstacle_11 (by decide) (by decide) (by decide) ?_
  refine lv_aload_n hx hb dX6_moveObstacle_14 rfl (lv_at hl 0 rfl) ?_
  refine lv_iload_n hx hb dX6_moveObstacle_15 rfl (lv_at hl 1 rfl) ?_
  refine lv_iload_n hx hb dX6_moveObstacle_16 rfl (lv_at hl 2 rfl) ?_
  refine cl_i0 (isC := [0, 1, 2, 3, 4]) (isR := []) (isN := [0, 1, 2, 3, 4]) (wr := []) (wn := cMd cI n L a rn sp cnt 0 (rowF w op tn pl en kd nb) as ln dr M0 M1 M2 M3 M4) (As := [.int (iI b), .int (iI up)]) (rest := []) (r := mvO n a w op cnt ln dr pl b up) (ci := 6) (q0 := 0) ⟨hx, hb, hml, hown, hts⟩ (c_X6_obstacleToMove n L a rn sp cnt 0 w op tn pl en kd nb as ln dr M0 M1 M2 M3 M4 b up (by first | assumption | omega) (by first | assumption | omega) (by first | assumption | omega) (by first | assumption | omega) (by first | assumption | omega) (by first | assumption | omega) (by first | assumption | omega) (by first | assumption | omega) (by first | assumption | omega) (by first | assumption | omega) (by first | assumption | omega) (by first | assumption | omega)) (cwV 2 hts gX6_moveObstacle_X6_obstacleToMove rfl rfl rfl (by decide +kernel) ⟨Nat.le_of_ble_eq_true rfl, Nat.le_of_ble_eq_true rfl⟩) hK hNW hP hD hS hA rfl rfl rfl rfl (by decide) rfl rfl rfl rfl rfl rfl hl.1 rfl (Nat.le_of_ble_eq_true rfl) dX6_moveObstacle_17 ⟨Nat.zero_le _, Nat.zero_le _⟩ (fun H locs hP hD hS => ?_)
  refine lv_goto (tgt := 24) hx hb dX6_moveObstacle_20 (by decide) ?_
  exact li_iret () hx hb hr hlocks hK hP hD hS dX6_moveObstacle_24 hQ rfl (congrArg iI (rfl))
