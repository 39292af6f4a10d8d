set_option maxRecDepth 100000 in
set_option maxHeartbeats 4000000 in
theorem c_L_levelOf_ok {l : Launch} {D : va_G} {cI cZ cJ : ClassId} (n : Int) (L : Int) (a : Int) (gd : Int) (w : Wt) (op : Int → Int) (tn : Int → Int) (cnt : Int) (ln : Int → Int) (dr : Int → Int) (pl : Int → Int) (rp : Rt) (ov : Nat → Int64) (S0 L0 W0 W1 G0 G1 G2 B0 B1 B2 B3 P0 O0 L0t : Nat) (x : Int) (hn : 1 ≤ n ∧ n ≤ 6) (hL : 5 ≤ L ∧ L ≤ 40) (ha : 1 ≤ a ∧ a ≤ 50) (hw : WI n L a w) (hv : 0 ≤ x ∧ x ≤ n - 1) : CW l yL_levelOf wsL_levelOf 26 [.ref S0, .int (iI x), .ref O0] D (ty3 cI cZ cJ) (cLs   S0 L0 L0t ++ cLa   L0 W0 G0 B0 P0 ++ cWa cI n L a gd w W0 W1 ++ cGa cI cZ op tn G0 G1 G2 ++ cFl cI cnt ln dr pl B0 B1 B2 B3 ++ cRp  rp P0 ++ cOu cJ ov O0) (0) (cLs   S0 L0 L0t ++ cLa   L0 W0 G0 B0 P0 ++ cWa cI n L a gd w W0 W1 ++ cGa cI cZ op tn G0 G1 G2 ++ cFl cI cnt ln dr pl B0 B1 B2 B3 ++ cRp  rp P0 ++ cOu cJ (vp_updL ov 0 (iI (lvA n L a w x)).toInt64) O0) := by
  refine ct_w (hh := [(0, 9, 12, 13)]) (plainFor_of_name (by decide)) rfl (Nat.le_of_ble_eq_true rfl) ?_
  intro p e s mI args below meth c_0 ls A hx hb hr hml hts hown hlocks htab hA hP hK hD hNW hXP hNC hS hl Q hQ
  have hown : s.vm.findClass RL = some mI.cls := hown
  have hl : lv_has ls 4 [(0, .ref S0), (1, .int (iI x)), (2, .ref O0)] := hl
  refine lv_aload_n hx hb dL_levelOf_0 rfl (lv_at hl 2 rfl) ?_
  refine li_const hx hb dL_levelOf_1 ?_
  refine lv_aload_n hx hb dL_levelOf_2 rfl (lv_at hl 0 rfl) ?_
  refine lv_iload_n hx hb dL_levelOf_3 rfl (lv_at hl 1 rfl) ?_
  refine cl_i0 (isC := [0, 1, 2, 3, 4, 5, 6, 7, 8, 9, 10, 11]) (isR := [12]) (isN := [1, 2, 3, 4, 5, 6, 7, 8, 9, 10, 11, 12, 0]) (wr := cOu cJ ov O0) (wn := cLs   S0 L0 L0t ++ cLa   L0 W0 G0 B0 P0 ++ cWa cI n L a gd w W0 W1 ++ cGa cI cZ op tn G0 G1 G2 ++ cFl cI cnt ln dr pl B0 B1 B2 B3 ++ cRp  rp P0 ++ cOu cJ ov O0) (As := [.int (iI x)]) (rest := [.int (iI 0), .ref O0]) (r := lvA n L a w x) (ci := 5) (q0 := 0) ⟨hx, hb, hml, hown, hts⟩ (c_X5_levelOf_ok n L a gd w op tn cnt ln dr pl rp S0 L0 W0 W1 G0 G1 G2 B0 B1 B2 B3 P0 L0t x (by first | assumption | omega) (by first | assumption | omega) (by first | assumption | omega) (by first | assumption | omega) (by first | assumption | omega)) (cwV 1 hts gL_levelOf_X5_levelOf rfl rfl rfl (by decide +kernel) ⟨Nat.le_of_ble_eq_true rfl, Nat.le_of_ble_eq_true rfl⟩) hK hNW hP hD hS hA rfl rfl rfl rfl (by decide) rfl rfl rfl rfl rfl rfl hl.1 rfl (Nat.le_of_ble_eq_true rfl) dL_levelOf_4 ⟨Nat.zero_le _, Nat.zero_le _⟩ (fun H locs hP hD hS => ?_)
  refine lv_i2l (v := (iI (lvA n L a w x)).toInt64) hx hb dL_levelOf_7 rfl ?_
  refine li_last (q0 := 12) (t0 := 2) (w2 := cLs   S0 L0 L0t ++ cLa   L0 W0 G0 B0 P0 ++ cWa cI n L a gd w W0 W1 ++ cGa cI cZ op tn G0 G1 G2 ++ cFl cI cnt ln dr pl B0 B1 B2 B3 ++ cRp  rp P0 ++ cOu cJ (vp_updL ov 0 ((iI (lvA n L a w x)).toInt64)) O0) hx hb hK hP hD hS rfl rfl dL_levelOf_8 rfl (fun H locs hP hD hS => ?_)
  refine lv_goto (tgt := 15) hx hb dL_levelOf_9 (by decide) ?_
  refine li_const hx hb dL_levelOf_15 ?_
  refine li_wide (k := 1) (n := 6) (Nat.le_of_ble_eq_true rfl) (Nat.le_of_ble_eq_true rfl) ?_
  exact li_iret () hx hb hr hlocks hK hP hD hS dL_levelOf_16 hQ rfl (congrArg iI (rfl))

set_option maxRecDepth 100000 in
set_option maxHeartbeats 4000000 in
theorem c_L_levelOf_no {l : Launch} {D : va_G} {cI cZ cJ : ClassId} (hl0 : l.stackTraces = false) (n : Int) (L : Int) (a : Int) (gd : Int) (w : Wt) (op : Int → Int) (tn : Int → Int) (cnt : Int) (ln : Int → Int) (dr : Int → Int) (pl : Int → Int) (rp : Rt) (ov : Nat → Int64) (S0 L0 W0 W1 G0 G1 G2 B0 B1 B2 B3 P0 O0 L0t : Nat) (x : Int) (hn : 1 ≤ n ∧ n ≤ 6) (hL : 5 ≤ L ∧ L ≤ 40) (ha : 1 ≤ a ∧ a ≤ 50) (i_x : -2147483648 ≤ x ∧ x < 2147483648) (hv : ¬ (0 ≤ x ∧ x ≤ n - 1)) : CW l yL_levelOf wsL_levelOf 26 [.ref S0, .int (iI x), .ref O0] D (ty3 cI cZ cJ) (cLs   S0 L0 L0t ++ cLa   L0 W0 G0 B0 P0 ++ cWa cI n L a gd w W0 W1 ++ cGa cI cZ op tn G0 G1 G2 ++ cFl cI cnt ln dr pl B0 B1 B2 B3 ++ cRp  rp P0 ++ cOu cJ ov O0) (1) (cLs   S0 L0 L0t ++ cLa   L0 W0 G0 B0 P0 ++ cWa cI n L a gd w W0 W1 ++ cGa cI cZ op tn G0 G1 G2 ++ cFl cI cnt ln dr pl B0 B1 B2 B3 ++ cRp  rp P0 ++ cOu cJ ov O0) := by
  refine ct_w (hh := [(0, 9, 12, 13)]) (plainFor_of_name (by decide)) rfl (Nat.le_of_ble_eq_true rfl) ?_
  intro p e s mI args below meth c_0 ls A hx hb hr hml hts hown hlocks htab hA hP hK hD hNW hXP hNC hS hl Q hQ
  have hown : s.vm.findClass RL = some mI.cls := hown
  have hl : lv_has ls 4 [(0, .ref S0), (1, .int (iI x)), (2, .ref O0)] := hl
  have hck_13 := hts (.classLink RL 13 "java/lang/IndexOutOfBoundsException") (by decide +kernel)
  refine lv_aload_n hx hb dL_levelOf_0 rfl (lv_at hl 2 rfl) ?_
  refine li_const hx hb dL_levelOf_1 ?_
  refine lv_aload_n hx hb dL_levelOf_2 rfl (lv_at hl 0 rfl) ?_
  refine lv_iload_n hx hb dL_levelOf_3 rfl (lv_at hl 1 rfl) ?_
  refine cl_t (isC := [0, 1, 2, 3, 4, 5, 6, 7, 8, 9, 10, 11]) (isR := [12]) (isN := [1, 2, 3, 4, 5, 6, 7, 8, 9, 10, 11, 12, 0]) (wr := cOu cJ ov O0) (As := [.int (iI x)]) (rest := [.int (iI 0), .ref O0]) (ci := 5) (q0 := 0) ⟨hx, hb, hml, hown, hts⟩ (c_X5_levelOf_no hl0 n L a gd w op tn cnt ln dr pl rp S0 L0 W0 W1 G0 G1 G2 B0 B1 B2 B3 P0 L0t x (by first | assumption | omega) (by first | assumption | omega) (by first | assumption | omega) (by first | assumption | omega) (by first | assumption | omega)) (cwV 1 hts gL_levelOf_X5_levelOf rfl rfl rfl (by decide +kernel) ⟨Nat.le_of_ble_eq_true rfl, Nat.le_of_ble_eq_true rfl⟩) hK hNW hXP hP hD hS hA rfl rfl rfl rfl (by decide) rfl rfl rfl rfl rfl rfl hl.1 rfl (Nat.le_of_ble_eq_true rfl) dL_levelOf_4 ⟨Nat.le_of_ble_eq_true rfl, Nat.le_of_ble_eq_true rfl⟩ (fun ce q9 H locs hP hD hS h1 h2 h3 => ?_)
  refine vx_catch (own := RL) (name := "java/lang/IndexOutOfBoundsException") hown [] ⟨0, 9, 12, 13⟩ [] (by rw [htab]; rfl) (fun z hz => nomatch hz) (by decide) (by decide) hck_13 (hXP.1.use _ (by decide +kernel)) h1 h2 h3 ?_
  show W p l e (rK 26 1 6) s mI args below meth c_0 H locs (0 + 1) (0 + 6) Q (F0 mI 12 ls [.ref q9])
  refine lv_astore_n (lv' := [(3, .ref q9), (0, .ref S0), (1, .int (iI x)), (2, .ref O0)]) hx hb dL_levelOf_12 rfl hl (by decide) rfl (fun ls hl => ?_)
  refine li_const hx hb dL_levelOf_13 ?_
  refine li_wide (k := 1) (n := 6) (Nat.le_of_ble_eq_true rfl) (Nat.le_of_ble_eq_true rfl) ?_
  exact li_iret () hx hb hr hlocks hK hP hD hS dL_levelOf_14 hQ rfl (congrArg iI (rfl))

set_option maxRecDepth 100000 in
set_option maxHeartbeats 4000000 in
theorem c_L_rain_ok {l : Launch} {D : va_G} {cI cZ cJ : ClassId} (n : Int) (L : Int) (a : Int) (gd : Int) (w : Wt) (op : Int → Int) (tn : Int → Int) (cnt : Int) (ln : Int → Int) (dr : Int → Int) (pl : Int → Int) (rp : Rt) (ov : Nat → Int64) (S0 L0 W0 W1 G0 G1 G2 B0 B1 B2 B3 P0 O0 L0t : Nat) (x : Int) (hn : 1 ≤ n ∧ n ≤ 6) (hL : 5 ≤ L ∧ L ≤ 40) (ha : 1 ≤ a ∧ a ≤ 50) (hw : WI n L a w) (hop : opB op) (hv : 1 ≤ x ∧ x ≤ 999) (ho2 : ¬ (isO op n = true)) : CW l yL_rain wsL_rain 26 [.ref S0, .int (iI x), .ref O0] D (ty3 cI cZ cJ) (cLs   S0 L0 L0t ++ cLa   L0 W0 G0 B0 P0 ++ cWa cI n L a gd w W0 W1 ++ cGa cI cZ op tn G0 G1 G2 ++ cFl cI cnt ln dr pl B0 B1 B2 B3 ++ cRp  rp P0 ++ cOu cJ ov O0) (0) (cLs   S0 L0 L0t ++ cLa   L0 W0 G0 B0 P0 ++ cWa cI n L a (gd + (x - spA a w.1 x)) (w.1 + (x - spA a w.1 x), w.2.1, w.2.2.1, w.2.2.2) W0 W1 ++ cGa cI cZ op tn G0 G1 G2 ++ cFl cI cnt ln dr pl B0 B1 B2 B3 ++ cRp  rp P0 ++ cOu cJ (vp_updL ov 0 (iI (spA a w.1 x)).toInt64) O0) := by
  refine ct_w (hh := [(0, 9, 12, 18), (0, 9, 15, 20)]) (plainFor_of_name (by decide)) rfl (Nat.le_of_ble_eq_true rfl) ?_
  intro p e s mI args below meth c_0 ls A hx hb hr hml hts hown hlocks htab hA hP hK hD hNW hXP hNC hS hl Q hQ
  have hown : s.vm.findClass RL = some mI.cls := hown
  have hl : lv_has ls 4 [(0, .ref S0), (1, .int (iI x)), (2, .ref O0)] := hl
  refine lv_aload_n hx hb dL_rain_0 rfl (lv_at hl 2 rfl) ?_
  refine li_const hx hb dL_rain_1 ?_
  refine lv_aload_n hx hb dL_rain_2 rfl (lv_at hl 0 rfl) ?_
  refine lv_iload_n hx hb dL_rain_3 rfl (lv_at hl 1 rfl) ?_
  refine cl_i0 (isC := [0, 1, 2, 3, 4, 5, 6, 7, 8, 9, 10, 11]) (isR := [12]) (isN := [1, 2, 3, 4, 5, 6, 7, 8, 9, 10, 11, 12, 0]) (wr := cOu cJ ov O0) (wn := cLs   S0 L0 L0t ++ cLa   L0 W0 G0 B0 P0 ++ cWa cI n L a (gd + (x - spA a w.1 x)) (w.1 + (x - spA a w.1 x), w.2.1, w.2.2.1, w.2.2.2) W0 W1 ++ cGa cI cZ op tn G0 G1 G2 ++ cFl cI cnt ln dr pl B0 B1 B2 B3 ++ cRp  rp P0 ++ cOu cJ ov O0) (As := [.int (iI x)]) (rest := [.int (iI 0), .ref O0]) (r := spA a w.1 x) (ci := 5) (q0 := 0) ⟨hx, hb, hml, hown, hts⟩ (c_X5_rain_ok n L a gd w op tn cnt ln dr pl rp S0 L0 W0 W1 G0 G1 G2 B0 B1 B2 B3 P0 L0t x (by first | assumption | omega) (by first | assumption | omega) (by first | assumption | omega) (by first | assumption | omega) (by first | assumption | omega) (by first | assumption | omega) (by first | assumption | omega)) (cwV 1 hts gL_rain_X5_rain rfl rfl rfl (by decide +kernel) ⟨Nat.le_of_ble_eq_true rfl, Nat.le_of_ble_eq_true rfl⟩) hK hNW hP hD hS hA rfl rfl rfl rfl (by decide) rfl rfl rfl rfl rfl rfl hl.1 rfl (Nat.le_of_ble_eq_true rfl) dL_rain_4 ⟨Nat.zero_le _, Nat.zero_le _⟩ (fun H locs hP hD hS => ?_)
  refine lv_i2l (v := (iI (spA a w.1 x)).toInt64) hx hb dL_rain_7 rfl ?_
  refine li_last (q0 := 12) (t0 := 2) (w2 := cLs   S0 L0 L0t ++ cLa   L0 W0 G0 B0 P0 ++ cWa cI n L a (gd + (x - spA a w.1 x)) (w.1 + (x - spA a w.1 x), w.2.1, w.2.2.1, w.2.2.2) W0 W1 ++ cGa cI cZ op tn G0 G1 G2 ++ cFl cI cnt ln dr pl B0 B1 B2 B3 ++ cRp  rp P0 ++ cOu cJ (vp_updL ov 0 ((iI (spA a w.1 x)).toInt64)) O0) hx hb hK hP hD hS rfl rfl dL_rain_8 rfl (fun H locs hP hD hS => ?_)
  refine lv_goto (tgt := 18) hx hb dL_rain_9 (by decide) ?_
  refine li_const hx hb dL_rain_18 ?_
  refine li_wide (k := 1) (n := 6) (Nat.le_of_ble_eq_true rfl) (Nat.le_of_ble_eq_true rfl) ?_
  exact li_iret () hx hb hr hlocks hK hP hD hS dL_rain_19 hQ rfl (congrArg iI (rfl))

set_option maxRecDepth 100000 in
set_option maxHeartbeats 4000000 in
theorem c_L_rain_no1 {l : Launch} {D : va_G} {cI cZ cJ : ClassId} (hl0 : l.stackTraces = false) (n : Int) (L : Int) (a : Int) (gd : Int) (w : Wt) (op : Int → Int) (tn : Int → Int) (cnt : Int) (ln : Int → Int) (dr : Int → Int) (pl : Int → Int) (rp : Rt) (ov : Nat → Int64) (S0 L0 W0 W1 G0 G1 G2 B0 B1 B2 B3 P0 O0 L0t : Nat) (x : Int) (i_x : -2147483648 ≤ x ∧ x < 2147483648) (hv : ¬ (1 ≤ x ∧ x ≤ 999)) : CW l yL_rain wsL_rain 26 [.ref S0, .int (iI x), .ref O0] D (ty3 cI cZ cJ) (cLs   S0 L0 L0t ++ cLa   L0 W0 G0 B0 P0 ++ cWa cI n L a gd w W0 W1 ++ cGa cI cZ op tn G0 G1 G2 ++ cFl cI cnt ln dr pl B0 B1 B2 B3 ++ cRp  rp P0 ++ cOu cJ ov O0) (1) (cLs   S0 L0 L0t ++ cLa   L0 W0 G0 B0 P0 ++ cWa cI n L a gd w W0 W1 ++ cGa cI cZ op tn G0 G1 G2 ++ cFl cI cnt ln dr pl B0 B1 B2 B3 ++ cRp  rp P0 ++ cOu cJ ov O0) := by
  refine ct_w (hh := [(0, 9, 12, 18), (0, 9, 15, 20)]) (plainFor_of_name (by decide)) rfl (Nat.le_of_ble_eq_true rfl) ?_
  intro p e s mI args below meth c_0 ls A hx hb hr hml hts hown hlocks htab hA hP hK hD hNW hXP hNC hS hl Q hQ
  have hown : s.vm.findClass RL = some mI.cls := hown
  have hl : lv_has ls 4 [(0, .ref S0), (1, .int (iI x)), (2, .ref O0)] := hl
  have hck_18 := hts (.classLink RL 18 "java/lang/IllegalArgumentException") (by decide +kernel)
  refine lv_aload_n hx hb dL_rain_0 rfl (lv_at hl 2 rfl) ?_
  refine li_const hx hb dL_rain_1 ?_
  refine lv_aload_n hx hb dL_rain_2 rfl (lv_at hl 0 rfl) ?_
  refine lv_iload_n hx hb dL_rain_3 rfl (lv_at hl 1 rfl) ?_
  refine cl_t (isC := [0, 1, 2, 3, 4, 5, 6, 7, 8, 9, 10, 11]) (isR := [12]) (isN := [1, 2, 3, 4, 5, 6, 7, 8, 9, 10, 11, 12, 0]) (wr := cOu cJ ov O0) (As := [.int (iI x)]) (rest := [.int (iI 0), .ref O0]) (ci := 5) (q0 := 0) ⟨hx, hb, hml, hown, hts⟩ (c_X5_rain_no1 hl0 n L a gd w op tn cnt ln dr pl rp S0 L0 W0 W1 G0 G1 G2 B0 B1 B2 B3 P0 L0t x (by first | assumption | omega) (by first | assumption | omega)) (cwV 1 hts gL_rain_X5_rain rfl rfl rfl (by decide +kernel) ⟨Nat.le_of_ble_eq_true rfl, Nat.le_of_ble_eq_true rfl⟩) hK hNW hXP hP hD hS hA rfl rfl rfl rfl (by decide) rfl rfl rfl rfl rfl rfl hl.1 rfl (Nat.le_of_ble_eq_true rfl) dL_rain_4 ⟨Nat.le_of_ble_eq_true rfl, Nat.le_of_ble_eq_true rfl⟩ (fun ce q9 H locs hP hD hS h1 h2 h3 => ?_)
  refine vx_catch (own := RL) (name := "java/lang/IllegalArgumentException") hown [] ⟨0, 9, 12, 18⟩ [⟨0, 9, 15, 20⟩] (by rw [htab]; rfl) (fun z hz => nomatch hz) (by decide) (by decide) hck_18 (hXP.1.use _ (by decide +kernel)) h1 h2 h3 ?_
  show W p l e (rK 26 1 6) s mI args below meth c_0 H locs (0 + 1) (0 + 6) Q (F0 mI 12 ls [.ref q9])
  refine lv_astore_n (lv' := [(3, .ref q9), (0, .ref S0), (1, .int (iI x)), (2, .ref O0)]) hx hb dL_rain_12 rfl hl (by decide) rfl (fun ls hl => ?_)
  refine li_const hx hb dL_rain_13 ?_
  refine li_wide (k := 1) (n := 6) (Nat.le_of_ble_eq_true rfl) (Nat.le_of_ble_eq_true rfl) ?_
  exact li_iret () hx hb hr hlocks hK hP hD hS dL_rain_14 hQ rfl (congrArg iI (rfl))

set_option maxRecDepth 100000 in
set_option maxHeartbeats 4000000 in
theorem c_L_rain_no2 {l : Launch} {D : va_G} {cI cZ cJ : ClassId} (hl0 : l.stackTraces = false) (n : Int) (L : Int) (a : Int) (gd : Int) (w : Wt) (op : Int → Int) (tn : Int → Int) (cnt : Int) (ln : Int → Int) (dr : Int → Int) (pl : Int → Int) (rp : Rt) (ov : Nat → Int64) (S0 L0 W0 W1 G0 G1 G2 B0 B1 B2 B3 P0 O0 L0t : Nat) (x : Int) (hn : 1 ≤ n ∧ n ≤ 6) (hL : 5 ≤ L ∧ L ≤ 40) (ha : 1 ≤ a ∧ a ≤ 50) (hop : opB op) (hv : 1 ≤ x ∧ x ≤ 999) (ho2 : isO op n = true) : CW l yL_rain wsL_rain 26 [.ref S0, .int (iI x), .ref O0] D (ty3 cI cZ cJ) (cLs   S0 L0 L0t ++ cLa   L0 W0 G0 B0 P0 ++ cWa cI n L a gd w W0 W1 ++ cGa cI cZ op tn G0 G1 G2 ++ cFl cI cnt ln dr pl B0 B1 B2 B3 ++ cRp  rp P0 ++ cOu cJ ov O0) (2) (cLs   S0 L0 L0t ++ cLa   L0 W0 G0 B0 P0 ++ cWa cI n L a gd w W0 W1 ++ cGa cI cZ op tn G0 G1 G2 ++ cFl cI cnt ln dr pl B0 B1 B2 B3 ++ cRp  rp P0 ++ cOu cJ ov O0) := by
  refine ct_w (hh := [(0, 9, 12, 18), (0, 9, 15, 20)]) (plainFor_of_name (by decide)) rfl (Nat.le_of_ble_eq_true rfl) ?_
  intro p e s mI args below meth c_0 ls A hx hb hr hml hts hown hlocks htab hA hP hK hD hNW hXP hNC hS hl Q hQ
  have hown : s.vm.findClass RL = some mI.cls := hown
  have hl : lv_has ls 4 [(0, .ref S0), (1, .int (iI x)), (2, .ref O0)] := hl
  have hck_18 := hts (.classLink RL 18 "java/lang/IllegalArgumentException") (by decide +kernel)
  have hck_20 := hts (.classLink RL 20 "java/lang/IllegalStateException") (by decide +kernel)
  refine lv_aload_n hx hb dL_rain_0 rfl (lv_at hl 2 rfl) ?_
  refine li_const hx hb dL_rain_1 ?_
  refine lv_aload_n hx hb dL_rain_2 rfl (lv_at hl 0 rfl) ?_
  refine lv_iload_n hx hb dL_rain_3 rfl (lv_at hl 1 rfl) ?_
  refine cl_t (isC := [0, 1, 2, 3, 4, 5, 6, 7, 8, 9, 10, 11]) (isR := [12]) (isN := [1, 2, 3, 4, 5, 6, 7, 8, 9, 10, 11, 12, 0]) (wr := cOu cJ ov O0) (As := [.int (iI x)]) (rest := [.int (iI 0), .ref O0]) (ci := 5) (q0 := 0) ⟨hx, hb, hml, hown, hts⟩ (c_X5_rain_no2 hl0 n L a gd w op tn cnt ln dr pl rp S0 L0 W0 W1 G0 G1 G2 B0 B1 B2 B3 P0 L0t x (by first | assumption | omega) (by first | assumption | omega) (by first | assumption | omega) (by first | assumption | omega) (by first | assumption | omega) (by first | assumption | omega)) (cwV 1 hts gL_rain_X5_rain rfl rfl rfl (by decide +kernel) ⟨Nat.le_of_ble_eq_true rfl, Nat.le_of_ble_eq_true rfl⟩) hK hNW hXP hP hD hS hA rfl rfl rfl rfl (by decide) rfl rfl rfl rfl rfl rfl hl.1 rfl (Nat.le_of_ble_eq_true rfl) dL_rain_4 ⟨Nat.le_of_ble_eq_true rfl, Nat.le_of_ble_eq_true rfl⟩ (fun ce q9 H locs hP hD hS h1 h2 h3 => ?_)
  refine vx_catch (own := RL) (name := "java/lang/IllegalStateException") hown [⟨0, 9, 12, 18⟩] ⟨0, 9, 15, 20⟩ [] (by rw [htab]; rfl) (fun z hz => by simp only [List.mem_cons, List.not_mem_nil, or_false] at hz; subst hz; exact Or.inr ⟨by decide, "java/lang/IllegalArgumentException", hck_18, hNC.2.2⟩) (by decide) (by decide) hck_20 (hXP.1.use _ (by decide +kernel)) h1 h2 h3 ?_
  show W p l e (rK 26 1 6) s mI args below meth c_0 H locs (0 + 1) (0 + 6) Q (F0 mI 15 ls [.ref q9])
  refine lv_astore_n (lv' := [(3, .ref q9), (0, .ref S0), (1, .int (iI x)), (2, .ref O0)]) hx hb dL_rain_15 rfl hl (by decide) rfl (fun ls hl => ?_)
  refine li_const hx hb dL_rain_16 ?_
  refine li_wide (k := 1) (n := 6) (Nat.le_of_ble_eq_true rfl) (Nat.le_of_ble_eq_true rfl) ?_
  exact li_iret () hx hb hr hlocks hK hP hD hS dL_rain_17 hQ rfl (congrArg iI (rfl))

set_option maxRecDepth 100000 in
set_option maxHeartbeats 4000000 in
theorem c_L_headAt_ok {l : Launch} {D : va_G} {cI cZ cJ : ClassId} (n : Int) (L : Int) (a : Int) (gd : Int) (w : Wt) (op : Int → Int) (tn : Int → Int) (cnt : Int) (ln : Int → Int) (dr : Int → Int) (pl : Int → Int) (rp : Rt) (ov : Nat → Int64) (S0 L0 W0 W1 G0 G1 G2 B0 B1 B2 B3 P0 O0 L0t : Nat) (x : Int) (hn : 1 ≤ n ∧ n ≤ 6) (hL : 5 ≤ L ∧ L ≤ 40) (ha : 1 ≤ a ∧ a ≤ 50) (hw : WI n L a w) (hv : 0 ≤ x ∧ x ≤ n) : CW l yL_headAt wsL_headAt 26 [.ref S0, .int (iI x), .ref O0] D (ty3 cI cZ cJ) (cLs   S0 L0 L0t ++ cLa   L0 W0 G0 B0 P0 ++ cWa cI n L a gd w W0 W1 ++ cGa cI cZ op tn G0 G1 G2 ++ cFl cI cnt ln dr pl B0 B1 B2 B3 ++ cRp  rp P0 ++ cOu cJ ov O0) (0) (cLs   S0 L0 L0t ++ cLa   L0 W0 G0 B0 P0 ++ cWa cI n L a gd w W0 W1 ++ cGa cI cZ op tn G0 G1 G2 ++ cFl cI cnt ln dr pl B0 B1 B2 B3 ++ cRp  rp P0 ++ cOu cJ (vp_updL ov 0 (iI (hdA n L a w x)).toInt64) O0) := by
  refine ct_w (hh := [(0, 9, 12, 13)]) (plainFor_of_name (by decide)) rfl (Nat.le_of_ble_eq_true rfl) ?_
  intro p e s mI args below meth c_0 ls A hx hb hr hml hts hown hlocks htab hA hP hK hD hNW hXP hNC hS hl Q hQ
  have hown : s.vm.findClass RL = some mI.cls := hown
  have hl : lv_has ls 4 [(0, .ref S0), (1, .int (iI x)), (2, .ref O0)] := hl
  refine lv_aload_n hx hb dL_headAt_0 rfl (lv_at hl 2 rfl) ?_
  refine li_const hx hb dL_headAt_1 ?_
  refine lv_aload_n hx hb dL_headAt_2 rfl (lv_at hl 0 rfl) ?_
  refine lv_iload_n hx hb dL_headAt_3 rfl (lv_at hl 1 rfl) ?_
  refine cl_i0 (isC := [0, 1, 2, 3, 4, 5, 6, 7, 8, 9, 10, 11]) (isR := [12]) (isN := [1, 2, 3, 4, 5, 6, 7, 8, 9, 10, 11, 12, 0]) (wr := cOu cJ ov O0) (wn := cLs   S0 L0 L0t ++ cLa   L0 W0 G0 B0 P0 ++ cWa cI n L a gd w W0 W1 ++ cGa cI cZ op tn G0 G1 G2 ++ cFl cI cnt ln dr pl B0 B1 B2 B3 ++ cRp  rp P0 ++ cOu cJ ov O0) (As := [.int (iI x)]) (rest := [.int (iI 0), .ref O0]) (r := hdA n L a w x) (ci := 5) (q0 := 0) ⟨hx, hb, hml, hown, hts⟩ (c_X5_headAt_ok n L a gd w op tn cnt ln dr pl rp S0 L0 W0 W1 G0 G1 G2 B0 B1 B2 B3 P0 L0t x (by first | assumption | omega) (by first | assumption | omega) (by first | assumption | omega) (by first | assumption | omega) (by first | assumption | omega)) (cwV 1 hts gL_headAt_X5_headAt rfl rfl rfl (by decide +kernel) ⟨Nat.le_of_ble_eq_true rfl, Nat.le_of_ble_eq_true rfl⟩) hK hNW hP hD hS hA rfl rfl rfl rfl (by decide) rfl rfl rfl rfl rfl rfl hl.1 rfl (Nat.le_of_ble_eq_true rfl) dL_headAt_4 ⟨Nat.zero_le _, Nat.zero_le _⟩ (fun H locs hP hD hS => ?_)
  refine lv_i2l (v := (iI (hdA n L a w x)).toInt64) hx hb dL_headAt_7 rfl ?_
  refine li_last (q0 := 12) (t0 := 2) (w2 := cLs   S0 L0 L0t ++ cLa   L0 W0 G0 B0 P0 ++ cWa cI n L a gd w W0 W1 ++ cGa cI cZ op tn G0 G1 G2 ++ cFl cI cnt ln dr pl B0 B1 B2 B3 ++ cRp  rp P0 ++ cOu cJ (vp_updL ov 0 ((iI (hdA n L a w x)).toInt64)) O0) hx hb hK hP hD hS rfl rfl dL_headAt_8 rfl (fun H locs hP hD hS => ?_)
  refine lv_goto (tgt := 15) hx hb dL_headAt_9 (by decide) ?_
  refine li_const hx hb dL_headAt_15 ?_
  refine li_wide (k := 1) (n := 6) (Nat.le_of_ble_eq_true rfl) (Nat.le_of_ble_eq_true rfl) ?_
  exact li_iret () hx hb hr hlocks hK hP hD hS dL_headAt_16 hQ rfl (congrArg iI (rfl))

set_option maxRecDepth 100000 in
set_option maxHeartbeats 4000000 in
theorem c_L_headAt_no {l : Launch} {D : va_G} {cI cZ cJ : ClassId} (hl0 : l.stackTraces = false) (n : Int) (L : Int) (a : Int) (gd : Int) (w : Wt) (op : Int → Int) (tn : Int → Int) (cnt : Int) (ln : Int → Int) (dr : Int → Int) (pl : Int → Int) (rp : Rt) (ov : Nat → Int64) (S0 L0 W0 W1 G0 G1 G2 B0 B1 B2 B3 P0 O0 L0t : Nat) (x : Int) (hn : 1 ≤ n ∧ n ≤ 6) (hL : 5 ≤ L ∧ L ≤ 40) (ha : 1 ≤ a ∧ a ≤ 50) (i_x : -2147483648 ≤ x ∧ x < 2147483648) (hv : ¬ (0 ≤ x ∧ x ≤ n)) : CW l yL_headAt wsL_headAt 26 [.ref S0, .int (iI x), .ref O0] D (ty3 cI cZ cJ) (cLs   S0 L0 L0t ++ cLa   L0 W0 G0 B0 P0 ++ cWa cI n L a gd w W0 W1 ++ cGa cI cZ op tn G0 G1 G2 ++ cFl cI cnt ln dr pl B0 B1 B2 B3 ++ cRp  rp P0 ++ cOu cJ ov O0) (1) (cLs   S0 L0 L0t ++ cLa   L0 W0 G0 B0 P0 ++ cWa cI n L a gd w W0 W1 ++ cGa cI cZ op tn G0 G1 G2 ++ cFl cI cnt ln dr pl B0 B1 B2 B3 ++ cRp  rp P0 ++ cOu cJ ov O0) := by
  refine ct_w (hh := [(0, 9, 12, 13)]) (plainFor_of_name (by decide)) rfl (Nat.le_of_ble_eq_true rfl) ?_
  intro p e s mI args below meth c_0 ls A hx hb hr hml hts hown hlocks htab hA hP hK hD hNW hXP hNC hS hl Q hQ
  have hown : s.vm.findClass RL = some mI.cls := hown
  have hl : lv_has ls 4 [(0, .ref S0), (1, .int (iI x)), (2, .ref O0)] := hl
  have hck_13 := hts (.classLink RL 13 "java/lang/IndexOutOfBoundsException") (by decide +kernel)
  refine lv_aload_n hx hb dL_headAt_0 rfl (lv_at hl 2 rfl) ?_
  refine li_const hx hb dL_headAt_1 ?_
  refine lv_aload_n hx hb dL_headAt_2 rfl (lv_at hl 0 rfl) ?_
  refine lv_iload_n hx hb dL_headAt_3 rfl (lv_at hl 1 rfl) ?_
  refine cl_t (isC := [0, 1, 2, 3, 4, 5, 6, 7, 8, 9, 10, 11]) (isR := [12]) (isN := [1, 2, 3, 4, 5, 6, 7, 8, 9, 10, 11, 12, 0]) (wr := cOu cJ ov O0) (As := [.int (iI x)]) (rest := [.int (iI 0), .ref O0]) (ci := 5) (q0 := 0) ⟨hx, hb, hml, hown, hts⟩ (c_X5_headAt_no hl0 n L a gd w op tn cnt ln dr pl rp S0 L0 W0 W1 G0 G1 G2 B0 B1 B2 B3 P0 L0t x (by first | assumption | omega) (by first | assumption | omega) (by first | assumption | omega) (by first | assumption | omega) (by first | assumption | omega)) (cwV 1 hts gL_headAt_X5_headAt rfl rfl rfl (by decide +kernel) ⟨Nat.le_of_ble_eq_true rfl, Nat.le_of_ble_eq_true rfl⟩) hK hNW hXP hP hD hS hA rfl rfl rfl rfl (by decide) rfl rfl rfl rfl rfl rfl hl.1 rfl (Nat.le_of_ble_eq_true rfl) dL_headAt_4 ⟨Nat.le_of_ble_eq_true rfl, Nat.le_of_ble_eq_true rfl⟩ (fun ce q9 H locs hP hD hS h1 h2 h3 => ?_)
  refine vx_catch (own := RL) (name := "java/lang/IndexOutOfBoundsException") hown [] ⟨0, 9, 12, 13⟩ [] (by rw [htab]; rfl) (fun z hz => nomatch hz) (by decide) (by decide) hck_13 (hXP.1.use _ (by decide +kernel)) h1 h2 h3 ?_
  show W p l e (rK 26 1 6) s mI args below meth c_0 H locs (0 + 1) (0 + 6) Q (F0 mI 12 ls [.ref q9])
  refine lv_astore_n (lv' := [(3, .ref q9), (0, .ref S0), (1, .int (iI x)), (2, .ref O0)]) hx hb dL_headAt_12 rfl hl (by decide) rfl (fun ls hl => ?_)
  refine li_const hx hb dL_headAt_13 ?_
  refine li_wide (k := 1) (n := 6) (Nat.le_of_ble_eq_true rfl) (Nat.le_of_ble_eq_true rfl) ?_
  exact li_iret () hx hb hr hlocks hK hP hD hS dL_headAt_14 hQ rfl (congrArg iI (rfl))

set_option maxRecDepth 100000 in
set_option maxHeartbeats 4000000 in
theorem c_L_isOpen_ok {l : Launch} {D : va_G} {cI cZ cJ : ClassId} (n : Int) (L : Int) (a : Int) (gd : Int) (w : Wt) (op : Int → Int) (tn : Int → Int) (cnt : Int) (ln : Int → Int) (dr : Int → Int) (pl : Int → Int) (rp : Rt) (ov : Nat → Int64) (S0 L0 W0 W1 G0 G1 G2 B0 B1 B2 B3 P0 O0 L0t : Nat) (x : Int) (hn : 1 ≤ n ∧ n ≤ 6) (hL : 5 ≤ L ∧ L ≤ 40) (ha : 1 ≤ a ∧ a ≤ 50) (hop : opB op) (hv : 0 ≤ x ∧ x ≤ n) : CW l yL_isOpen wsL_isOpen 26 [.ref S0, .int (iI x), .ref O0] D (ty3 cI cZ cJ) (cLs   S0 L0 L0t ++ cLa   L0 W0 G0 B0 P0 ++ cWa cI n L a gd w W0 W1 ++ cGa cI cZ op tn G0 G1 G2 ++ cFl cI cnt ln dr pl B0 B1 B2 B3 ++ cRp  rp P0 ++ cOu cJ ov O0) (0) (cLs   S0 L0 L0t ++ cLa   L0 W0 G0 B0 P0 ++ cWa cI n L a gd w W0 W1 ++ cGa cI cZ op tn G0 G1 G2 ++ cFl cI cnt ln dr pl B0 B1 B2 B3 ++ cRp  rp P0 ++ cOu cJ (vp_updL ov 0 (iI (bz (isO op x = true))).toInt64) O0) := by
  refine ct_w (hh := [(0, 16, 19, 13)]) (plainFor_of_name (by decide)) rfl (Nat.le_of_ble_eq_true rfl) ?_
  intro p e s mI args below meth c_0 ls A hx hb hr hml hts hown hlocks htab hA hP hK hD hNW hXP hNC hS hl Q hQ
  have hown : s.vm.findClass RL = some mI.cls := hown
  have hl : lv_has ls 4 [(0, .ref S0), (1, .int (iI x)), (2, .ref O0)] := hl
  refine lv_aload_n hx hb dL_isOpen_0 rfl (lv_at hl 2 rfl) ?_
  refine li_const hx hb dL_isOpen_1 ?_
  refine lv_aload_n hx hb dL_isOpen_2 rfl (lv_at hl 0 rfl) ?_
  refine lv_iload_n hx hb dL_isOpen_3 rfl (lv_at hl 1 rfl) ?_
  refine cl_i0 (isC := [0, 1, 2, 3, 4, 5, 6, 7, 8, 9, 10, 11]) (isR := [12]) (isN := [1, 2, 3, 4, 5, 6, 7, 8, 9, 10, 11, 12, 0]) (wr := cOu cJ ov O0) (wn := cLs   S0 L0 L0t ++ cLa   L0 W0 G0 B0 P0 ++ cWa cI n L a gd w W0 W1 ++ cGa cI cZ op tn G0 G1 G2 ++ cFl cI cnt ln dr pl B0 B1 B2 B3 ++ cRp  rp P0 ++ cOu cJ ov O0) (As := [.int (iI x)]) (rest := [.int (iI 0), .ref O0]) (r := bz (isO op x = true)) (ci := 5) (q0 := 0) ⟨hx, hb, hml, hown, hts⟩ (c_X5_isOpen_ok n L a gd w op tn cnt ln dr pl rp S0 L0 W0 W1 G0 G1 G2 B0 B1 B2 B3 P0 L0t x (by first | assumption | omega) (by first | assumption | omega) (by first | assumption | omega) (by first | assumption | omega) (by first | assumption | omega)) (cwV 1 hts gL_isOpen_X5_isOpen rfl rfl rfl (by decide +kernel) ⟨Nat.le_of_ble_eq_true rfl, Nat.le_of_ble_eq_true rfl⟩) hK hNW hP hD hS hA rfl rfl rfl rfl (by decide) rfl rfl rfl rfl rfl rfl hl.1 rfl (Nat.le_of_ble_eq_true rfl) dL_isOpen_4 ⟨Nat.zero_le _, Nat.zero_le _⟩ (fun H locs hP hD hS => ?_)
  refine li_ifb_eq (tgt := 14) hx hb dL_isOpen_7 (by decide) (fun c_7 => ?_) (fun c_7 => ?_)
  · refine lv_lconst (v := 0) hx hb dL_isOpen_14 rfl ?_
    refine li_last (q0 := 12) (t0 := 2) (w2 := cLs   S0 L0 L0t ++ cLa   L0 W0 G0 B0 P0 ++ cWa cI n L a gd w W0 W1 ++ cGa cI cZ op tn G0 G1 G2 ++ cFl cI cnt ln dr pl B0 B1 B2 B3 ++ cRp  rp P0 ++ cOu cJ (vp_updL ov 0 0) O0) hx hb hK hP hD hS rfl rfl dL_isOpen_15 rfl (fun H locs hP hD hS => ?_)
    refine lv_goto (tgt := 22) hx hb dL_isOpen_16 (by decide) ?_
    refine li_const hx hb dL_isOpen_22 ?_
    refine li_wide (k := 1) (n := 6) (Nat.le_of_ble_eq_true rfl) (Nat.le_of_ble_eq_true rfl) ?_
    exact li_iret () hx hb hr hlocks hK hP hD hS dL_isOpen_23 hQ (by first | rw [bz_t (by assumption)]; rfl | rw [bz_f (by assumption)]; rfl) (congrArg iI (rfl))
  · refine lv_lconst (v := 1) hx hb dL_isOpen_10 rfl ?_
    refine lv_goto (tgt := 15) hx hb dL_isOpen_11 (by decide) ?_
    refine li_last (q0 := 12) (t0 := 2) (w2 := cLs   S0 L0 L0t ++ cLa   L0 W0 G0 B0 P0 ++ cWa cI n L a gd w W0 W1 ++ cGa cI cZ op tn G0 G1 G2 ++ cFl cI cnt ln dr pl B0 B1 B2 B3 ++ cRp  rp P0 ++ cOu cJ (vp_updL ov 0 1) O0) hx hb hK hP hD hS rfl rfl dL_isOpen_15 rfl (fun H locs hP hD hS => ?_)
    refine lv_goto (tgt := 22) hx hb dL_isOpen_16 (by decide) ?_
    refine li_const hx hb dL_isOpen_22 ?_
    refine li_wide (k := 1) (n := 6) (Nat.le_of_ble_eq_true rfl) (Nat.le_of_ble_eq_true rfl) ?_
    exact li_iret () hx hb hr hlocks hK hP hD hS dL_isOpen_23 hQ (by first | rw [bz_t (by assumption)]; rfl | rw [bz_f (by assumption)]; rfl) (congrArg iI (rfl))

set_option maxRecDepth 100000 in
set_option maxHeartbeats 4000000 in
theorem c_L_isOpen_no {l : Launch} {D : va_G} {cI cZ cJ : ClassId} (hl0 : l.stackTraces = false) (n : Int) (L : Int) (a : Int) (gd : Int) (w : Wt) (op : Int → Int) (tn : Int → Int) (cnt : Int) (ln : Int → Int) (dr : Int → Int) (pl : Int → Int) (rp : Rt) (ov : Nat → Int64) (S0 L0 W0 W1 G0 G1 G2 B0 B1 B2 B3 P0 O0 L0t : Nat) (x : Int) (hn : 1 ≤ n ∧ n ≤ 6) (hL : 5 ≤ L ∧ L ≤ 40) (ha : 1 ≤ a ∧ a ≤ 50) (i_x : -2147483648 ≤ x ∧ x < 2147483648) (hv : ¬ (0 ≤ x ∧ x ≤ n)) : CW l yL_isOpen wsL_isOpen 26 [.ref S0, .int (iI x), .ref O0] D (ty3 cI cZ cJ) (cLs   S0 L0 L0t ++ cLa   L0 W0 G0 B0 P0 ++ cWa cI n L a gd w W0 W1 ++ cGa cI cZ op tn G0 G1 G2 ++ cFl cI cnt ln dr pl B0 B1 B2 B3 ++ cRp  rp P0 ++ cOu cJ ov O0) (1) (cLs   S0 L0 L0t ++ cLa   L0 W0 G0 B0 P0 ++ cWa cI n L a gd w W0 W1 ++ cGa cI cZ op tn G0 G1 G2 ++ cFl cI cnt ln dr pl B0 B1 B2 B3 ++ cRp  rp P0 ++ cOu cJ ov O0) := by
  refine ct_w (hh := [(0, 16, 19, 13)]) (plainFor_of_name (by decide)) rfl (Nat.le_of_ble_eq_true rfl) ?_
  intro p e s mI args below meth c_0 ls A hx hb hr hml hts hown hlocks htab hA hP hK hD hNW hXP hNC hS hl Q hQ
  have hown : s.vm.findClass RL = some mI.cls := hown
  have hl : lv_has ls 4 [(0, .ref S0), (1, .int (iI x)), (2, .ref O0)] := hl
  have hck_13 := hts (.classLink RL 13 "java/lang/IndexOutOfBoundsException") (by decide +kernel)
  refine lv_aload_n hx hb dL_isOpen_0 rfl (lv_at hl 2 rfl) ?_
  refine li_const hx hb dL_isOpen_1 ?_
  refine lv_aload_n hx hb dL_isOpen_2 rfl (lv_at hl 0 rfl) ?_
  refine lv_iload_n hx hb dL_isOpen_3 rfl (lv_at hl 1 rfl) ?_
  refine cl_t (isC := [0, 1, 2, 3, 4, 5, 6, 7, 8, 9, 10, 11]) (isR := [12]) (isN := [1, 2, 3, 4, 5, 6, 7, 8, 9, 10, 11, 12, 0]) (wr := cOu cJ ov O0) (As := [.int (iI x)]) (rest := [.int (iI 0), .ref O0]) (ci := 5) (q0 := 0) ⟨hx, hb, hml, hown, hts⟩ (c_X5_isOpen_no hl0 n L a gd w op tn cnt ln dr pl rp S0 L0 W0 W1 G0 G1 G2 B0 B1 B2 B3 P0 L0t x (by first | assumption | omega) (by first | assumption | omega) (by first | assumption | omega) (by first | assumption | omega) (by first | assumption | omega)) (cwV 1 hts gL_isOpen_X5_isOpen rfl rfl rfl (by decide +kernel) ⟨Nat.le_of_ble_eq_true rfl, Nat.le_of_ble_eq_true rfl⟩) hK hNW hXP hP hD hS hA rfl rfl rfl rfl (by decide) rfl rfl rfl rfl rfl rfl hl.1 rfl (Nat.le_of_ble_eq_true rfl) dL_isOpen_4 ⟨Nat.le_of_ble_eq_true rfl, Nat.le_of_ble_eq_true rfl⟩ (fun ce q9 H locs hP hD hS h1 h2 h3 => ?_)
  refine vx_catch (own := RL) (name := "java/lang/IndexOutOfBoundsException") hown [] ⟨0, 16, 19, 13⟩ [] (by rw [htab]; rfl) (fun z hz => nomatch hz) (by decide) (by decide) hck_13 (hXP.1.use _ (by decide +kernel)) h1 h2 h3 ?_
  show W p l e (rK 26 1 6) s mI args below meth c_0 H locs (0 + 1) (0 + 6) Q (F0 mI 19 ls [.ref q9])
  refine lv_astore_n (lv' := [(3, .ref q9), (0, .ref S0), (1, .int (iI x)), (2, .ref O0)]) hx hb dL_isOpen_19 rfl hl (by decide) rfl (fun ls hl => ?_)
  refine li_const hx hb dL_isOpen_20 ?_
  refine li_wide (k := 1) (n := 6) (Nat.le_of_ble_eq_true rfl) (Nat.le_of_ble_eq_true rfl) ?_
  exact li_iret () hx hb hr hlocks hK hP hD hS dL_isOpen_21 hQ rfl (congrArg iI (rfl))

set_option maxRecDepth 100000 in
set_option maxHeartbeats 4000000 in
theorem c_L_openObstacle_ok {l : Launch} {D : va_G} {cI cZ cJ : ClassId} (n : Int) (L : Int) (a : Int) (gd : Int) (w : Wt) (op : Int → Int) (tn : Int → Int) (cnt : Int) (ln : Int → Int) (dr : Int → Int) (pl : Int → Int) (rp : Rt) (ov : Nat → Int64) (S0 L0 W0 W1 G0 G1 G2 B0 B1 B2 B3 P0 O0 L0t : Nat) (x : Int) (hn : 1 ≤ n ∧ n ≤ 6) (hL : 5 ≤ L ∧ L ≤ 40) (ha : 1 ≤ a ∧ a ≤ 50) (hw : WI n L a w) (hop : opB op) (htn : tnB tn) (hv : 0 ≤ x ∧ x ≤ n) : CW l yL_openObstacle wsL_openObstacle 26 [.ref S0, .int (iI x), .ref O0] D (ty3 cI cZ cJ) (cLs   S0 L0 L0t ++ cLa   L0 W0 G0 B0 P0 ++ cWa cI n L a gd w W0 W1 ++ cGa cI cZ op tn G0 G1 G2 ++ cFl cI cnt ln dr pl B0 B1 B2 B3 ++ cRp  rp P0 ++ cOu cJ ov O0) (0) (cLs   S0 L0 L0t ++ cLa   L0 W0 G0 B0 P0 ++ cWa cI n L a gd w W0 W1 ++ cGa cI cZ op tn G0 G1 G2 ++ cFl cI cnt ln dr pl B0 B1 B2 B3 ++ cRp  rp P0 ++ cOu cJ (vp_updL ov 0 (iI (opO n L a w op tn x)).toInt64) O0) := by
  refine ct_w (hh := [(0, 9, 12, 13)]) (plainFor_of_name (by decide)) rfl (Nat.le_of_ble_eq_true rfl) ?_
  intro p e s mI args below meth c_0 ls A hx hb hr hml hts hown hlocks htab hA hP hK hD hNW hXP hNC hS hl Q hQ
  have hown : s.vm.findClass RL = some mI.cls := hown
  have hl : lv_has ls 4 [(0, .ref S0), (1, .int (iI x)), (2, .ref O0)] := hl
  refine lv_aload_n hx hb dL_openObstacle_0 rfl (lv_at hl 2 rfl) ?_
  refine li_const hx hb dL_openObstacle_1 ?_
  refine lv_aload_n hx hb dL_openObstacle_2 rfl (lv_at hl 0 rfl) ?_
  refine lv_iload_n hx hb dL_openObstacle_3 rfl (lv_at hl 1 rfl) ?_
  refine cl_i0 (isC := [0, 1, 2, 3, 4, 5, 6, 7, 8, 9, 10, 11]) (isR := [12]) (isN := [1, 2, 3, 4, 5, 6, 7, 8, 9, 10, 11, 12, 0]) (wr := cOu cJ ov O0) (wn := cLs   S0 L0 L0t ++ cLa   L0 W0 G0 B0 P0 ++ cWa cI n L a gd w W0 W1 ++ cGa cI cZ op tn G0 G1 G2 ++ cFl cI cnt ln dr pl B0 B1 B2 B3 ++ cRp  rp P0 ++ cOu cJ ov O0) (As := [.int (iI x)]) (rest := [.int (iI 0), .ref O0]) (r := opO n L a w op tn x) (ci := 5) (q0 := 0) ⟨hx, hb, hml, hown, hts⟩ (c_X5_openObstacle_ok n L a gd w op tn cnt ln dr pl rp S0 L0 W0 W1 G0 G1 G2 B0 B1 B2 B3 P0 L0t x (by first | assumption | omega) (by first | assumption | omega) (by first | assumption | omega) (by first | assumption | omega) (by first | assumption | omega) (by first | assumption | omega) (by first | assumption | omega)) (cwV 1 hts gL_openObstacle_X5_openObstacle rfl rfl rfl (by decide +kernel) ⟨Nat.le_of_ble_eq_true rfl, Nat.le_of_ble_eq_true rfl⟩) hK hNW hP hD hS hA rfl rfl rfl rfl (by decide) rfl rfl rfl rfl rfl rfl hl.1 rfl (Nat.le_of_ble_eq_true rfl) dL_openObstacle_4 ⟨Nat.zero_le _, Nat.zero_le _⟩ (fun H locs hP hD hS => ?_)
  refine lv_i2l (v := (iI (opO n L a w op tn x)).toInt64) hx hb dL_openObstacle_7 rfl ?_
  refine li_last (q0 := 12) (t0 := 2) (w2 := cLs   S0 L0 L0t ++ cLa   L0 W0 G0 B0 P0 ++ cWa cI n L a gd w W0 W1 ++ cGa cI cZ op tn G0 G1 G2 ++ cFl cI cnt ln dr pl B0 B1 B2 B3 ++ cRp  rp P0 ++ cOu cJ (vp_updL ov 0 ((iI (opO n L a w op tn x)).toInt64)) O0) hx hb hK hP hD hS rfl rfl dL_openObstacle_8 rfl (fun H locs hP hD hS => ?_)
  refine lv_goto (tgt := 15) hx hb dL_openObstacle_9 (by decide) ?_
  refine li_const hx hb dL_openObstacle_15 ?_
  refine li_wide (k := 1) (n := 6) (Nat.le_of_ble_eq_true rfl) (Nat.le_of_ble_eq_true rfl) ?_
  exact li_iret () hx hb hr hlocks hK hP hD hS dL_openObstacle_16 hQ rfl (congrArg iI (rfl))

set_option maxRecDepth 100000 in
set_option maxHeartbeats 4000000 in
theorem c_L_openObstacle_no {l : Launch} {D : va_G} {cI cZ cJ : ClassId} (hl0 : l.stackTraces = false) (n : Int) (L : Int) (a : Int) (gd : Int) (w : Wt) (op : Int → Int) (tn : Int → Int) (cnt : Int) (ln : Int → Int) (dr : Int → Int) (pl : Int → Int) (rp : Rt) (ov : Nat → Int64) (S0 L0 W0 W1 G0 G1 G2 B0 B1 B2 B3 P0 O0 L0t : Nat) (x : Int) (hn : 1 ≤ n ∧ n ≤ 6) (hL : 5 ≤ L ∧ L ≤ 40) (ha : 1 ≤ a ∧ a ≤ 50) (i_x : -2147483648 ≤ x ∧ x < 2147483648) (hv : ¬ (0 ≤ x ∧ x ≤ n)) : CW l yL_openObstacle wsL_openObstacle 26 [.ref S0, .int (iI x), .ref O0] D (ty3 cI cZ cJ) (cLs   S0 L0 L0t ++ cLa   L0 W0 G0 B0 P0 ++ cWa cI n L a gd w W0 W1 ++ cGa cI cZ op tn G0 G1 G2 ++ cFl cI cnt ln dr pl B0 B1 B2 B3 ++ cRp  rp P0 ++ cOu cJ ov O0) (1) (cLs   S0 L0 L0t ++ cLa   L0 W0 G0 B0 P0 ++ cWa cI n L a gd w W0 W1 ++ cGa cI cZ op tn G0 G1 G2 ++ cFl cI cnt ln dr pl B0 B1 B2 B3 ++ cRp  rp P0 ++ cOu cJ ov O0) := by
  refine ct_w (hh := [(0, 9, 12, 13)]) (plainFor_of_name (by decide)) rfl (Nat.le_of_ble_eq_true rfl) ?_
  intro p e s mI args below meth c_0 ls A hx hb hr hml hts hown hlocks htab hA hP hK hD hNW hXP hNC hS hl Q hQ
  have hown : s.vm.findClass RL = some mI.cls := hown
  have hl : lv_has ls 4 [(0, .ref S0), (1, .int (iI x)), (2, .ref O0)] := hl
  have hck_13 := hts (.classLink RL 13 "java/lang/IndexOutOfBoundsException") (by decide +kernel)
  refine lv_aload_n hx hb dL_openObstacle_0 rfl (lv_at hl 2 rfl) ?_
  refine li_const hx hb dL_openObstacle_1 ?_
  refine lv_aload_n hx hb dL_openObstacle_2 rfl (lv_at hl 0 rfl) ?_
  refine lv_iload_n hx hb dL_openObstacle_3 rfl (lv_at hl 1 rfl) ?_
  refine cl_t (isC := [0, 1, 2, 3, 4, 5, 6, 7, 8, 9, 10, 11]) (isR := [12]) (isN := [1, 2, 3, 4, 5, 6, 7, 8, 9, 10, 11, 12, 0]) (wr := cOu cJ ov O0) (As := [.int (iI x)]) (rest := [.int (iI 0), .ref O0]) (ci := 5) (q0 := 0) ⟨hx, hb, hml, hown, hts⟩ (c_X5_openObstacle_no hl0 n L a gd w op tn cnt ln dr pl rp S0 L0 W0 W1 G0 G1 G2 B0 B1 B2 B3 P0 L0t x (by first | assumption | omega) (by first | assumption | omega) (by first | assumption | omega) (by first | assumption | omega) (by first | assumption | omega)) (cwV 1 hts gL_openObstacle_X5_openObstacle rfl rfl rfl (by decide +kernel) ⟨Nat.le_of_ble_eq_true rfl, Nat.le_of_ble_eq_true rfl⟩) hK hNW hXP hP hD hS hA rfl rfl rfl rfl (by decide) rfl rfl rfl rfl rfl rfl hl.1 rfl (Nat.le_of_ble_eq_true rfl) dL_openObstacle_4 ⟨Nat.le_of_ble_eq_true rfl, Nat.le_of_ble_eq_true rfl⟩ (fun ce q9 H locs hP hD hS h1 h2 h3 => ?_)
  refine vx_catch (own := RL) (name := "java/lang/IndexOutOfBoundsException") hown [] ⟨0, 9, 12, 13⟩ [] (by rw [htab]; rfl) (fun z hz => nomatch hz) (by decide) (by decide) hck_13 (hXP.1.use _ (by decide +kernel)) h1 h2 h3 ?_
  show W p l e (rK 26 1 6) s mI args below meth c_0 H locs (0 + 1) (0 + 6) Q (F0 mI 12 ls [.ref q9])
  refine lv_astore_n (lv' := [(3, .ref q9), (0, .ref S0), (1, .int (iI x)), (2, .ref O0)]) hx hb dL_openObstacle_12 rfl hl (by decide) rfl (fun ls hl => ?_)
  refine li_const hx hb dL_openObstacle_13 ?_
  refine li_wide (k := 1) (n := 6) (Nat.le_of_ble_eq_true rfl) (Nat.le_of_ble_eq_true rfl) ?_
  exact li_iret () hx hb hr hlocks hK hP hD hS dL_openObstacle_14 hQ rfl (congrArg iI (rfl))

set_option maxRecDepth 100000 in
set_option maxHeartbeats 4000000 in
theorem c_L_open_ok {l : Launch} {D : va_G} {cI cZ cJ : ClassId} (n : Int) (L : Int) (a : Int) (gd : Int) (w : Wt) (op : Int → Int) (tn : Int → Int) (cnt : Int) (ln : Int → Int) (dr : Int → Int) (pl : Int → Int) (rp : Rt) (ov : Nat → Int64) (S0 L0 W0 W1 G0 G1 G2 B0 B1 B2 B3 P0 O0 L0t : Nat) (x : Int) (hn : 1 ≤ n ∧ n ≤ 6) (hL : 5 ≤ L ∧ L ≤ 40) (ha : 1 ≤ a ∧ a ≤ 50) (hw : WI n L a w) (hop : opB op) (htn : tnB tn) (hv : 0 ≤ x ∧ x ≤ n) (hc : opO n L a w op tn x = 0) : CW l yL_open wsL_open 26 [.ref S0, .int (iI x), .ref O0] D (ty3 cI cZ cJ) (cLs   S0 L0 L0t ++ cLa   L0 W0 G0 B0 P0 ++ cWa cI n L a gd w W0 W1 ++ cGa cI cZ op tn G0 G1 G2 ++ cFl cI cnt ln dr pl B0 B1 B2 B3 ++ cRp  rp P0 ++ cOu cJ ov O0) (0) (cLs   S0 L0 L0t ++ cLa   L0 W0 G0 B0 P0 ++ cWa cI n L a gd w W0 W1 ++ cGa cI cZ (upZ op x 1) tn G0 G1 G2 ++ cFl cI cnt ln dr pl B0 B1 B2 B3 ++ cRp  rp P0 ++ cOu cJ (vp_updL ov 0 (iI (sumZ (upZ op x 1) 7)).toInt64) O0) := by
  refine ct_w (hh := [(0, 9, 12, 13), (0, 9, 15, 20)]) (plainFor_of_name (by decide)) rfl (Nat.le_of_ble_eq_true rfl) ?_
  intro p e s mI args below meth c_0 ls A hx hb hr hml hts hown hlocks htab hA hP hK hD hNW hXP hNC hS hl Q hQ
  have hown : s.vm.findClass RL = some mI.cls := hown
  have hl : lv_has ls 4 [(0, .ref S0), (1, .int (iI x)), (2, .ref O0)] := hl
  refine lv_aload_n hx hb dL_open_0 rfl (lv_at hl 2 rfl) ?_
  refine li_const hx hb dL_open_1 ?_
  refine lv_aload_n hx hb dL_open_2 rfl (lv_at hl 0 rfl) ?_
  refine lv_iload_n hx hb dL_open_3 rfl (lv_at hl 1 rfl) ?_
  refine cl_i0 (isC := [0, 1, 2, 3, 4, 5, 6, 7, 8, 9, 10, 11]) (isR := [12]) (isN := [1, 2, 3, 4, 5, 6, 7, 8, 9, 10, 11, 12, 0]) (wr := cOu cJ ov O0) (wn := cLs   S0 L0 L0t ++ cLa   L0 W0 G0 B0 P0 ++ cWa cI n L a gd w W0 W1 ++ cGa cI cZ (upZ op x 1) tn G0 G1 G2 ++ cFl cI cnt ln dr pl B0 B1 B2 B3 ++ cRp  rp P0 ++ cOu cJ ov O0) (As := [.int (iI x)]) (rest := [.int (iI 0), .ref O0]) (r := sumZ (upZ op x 1) 7) (ci := 5) (q0 := 0) ⟨hx, hb, hml, hown, hts⟩ (c_X5_open_ok n L a gd w op tn cnt ln dr pl rp S0 L0 W0 W1 G0 G1 G2 B0 B1 B2 B3 P0 L0t x (by first | assumption | omega) (by first | assumption | omega) (by first | assumption | omega) (by first | assumption | omega) (by first | assumption | omega) (by first | assumption | omega) (by first | assumption | omega) (by first | assumption | omega)) (cwV 1 hts gL_open_X5_open rfl rfl rfl (by decide +kernel) ⟨Nat.le_of_ble_eq_true rfl, Nat.le_of_ble_eq_true rfl⟩) hK hNW hP hD hS hA rfl rfl rfl rfl (by decide) rfl rfl rfl rfl rfl rfl hl.1 rfl (Nat.le_of_ble_eq_true rfl) dL_open_4 ⟨Nat.zero_le _, Nat.zero_le _⟩ (fun H locs hP hD hS => ?_)
  refine lv_i2l (v := (iI (sumZ (upZ op x 1) 7)).toInt64) hx hb dL_open_7 rfl ?_
  refine li_last (q0 := 12) (t0 := 2) (w2 := cLs   S0 L0 L0t ++ cLa   L0 W0 G0 B0 P0 ++ cWa cI n L a gd w W0 W1 ++ cGa cI cZ (upZ op x 1) tn G0 G1 G2 ++ cFl cI cnt ln dr pl B0 B1 B2 B3 ++ cRp  rp P0 ++ cOu cJ (vp_updL ov 0 ((iI (sumZ (upZ op x 1) 7)).toInt64)) O0) hx hb hK hP hD hS rfl rfl dL_open_8 rfl (fun H locs hP hD hS => ?_)
  refine lv_goto (tgt := 18) hx hb dL_open_9 (by decide) ?_
  refine li_const hx hb dL_open_18 ?_
  refine li_wide (k := 1) (n := 6) (Nat.le_of_ble_eq_true rfl) (Nat.le_of_ble_eq_true rfl) ?_
  exact li_iret () hx hb hr hlocks hK hP hD hS dL_open_19 hQ rfl (congrArg iI (rfl))

set_option maxRecDepth 100000 in
set_option maxHeartbeats 4000000 in
theorem c_L_open_no1 {l : Launch} {D : va_G} {cI cZ cJ : ClassId} (hl0 : l.stackTraces = false) (n : Int) (L : Int) (a : Int) (gd : Int) (w : Wt) (op : Int → Int) (tn : Int → Int) (cnt : Int) (ln : Int → Int) (dr : Int → Int) (pl : Int → Int) (rp : Rt) (ov : Nat → Int64) (S0 L0 W0 W1 G0 G1 G2 B0 B1 B2 B3 P0 O0 L0t : Nat) (x : Int) (hn : 1 ≤ n ∧ n ≤ 6) (hL : 5 ≤ L ∧ L ≤ 40) (ha : 1 ≤ a ∧ a ≤ 50) (i_x : -2147483648 ≤ x ∧ x < 2147483648) (hv : ¬ (0 ≤ x ∧ x ≤ n)) : CW l yL_open wsL_open 26 [.ref S0, .int (iI x), .ref O0] D (ty3 cI cZ cJ) (cLs   S0 L0 L0t ++ cLa   L0 W0 G0 B0 P0 ++ cWa cI n L a gd w W0 W1 ++ cGa cI cZ op tn G0 G1 G2 ++ cFl cI cnt ln dr pl B0 B1 B2 B3 ++ cRp  rp P0 ++ cOu cJ ov O0) (1) (cLs   S0 L0 L0t ++ cLa   L0 W0 G0 B0 P0 ++ cWa cI n L a gd w W0 W1 ++ cGa cI cZ op tn G0 G1 G2 ++ cFl cI cnt ln dr pl B0 B1 B2 B3 ++ cRp  rp P0 ++ cOu cJ ov O0) := by
  refine ct_w (hh := [(0, 9, 12, 13), (0, 9, 15, 20)]) (plainFor_of_name (by decide)) rfl (Nat.le_of_ble_eq_true rfl) ?_
  intro p e s mI args below meth c_0 ls A hx hb hr hml hts hown hlocks htab hA hP hK hD hNW hXP hNC hS hl Q hQ
  have hown : s.vm.findClass RL = some mI.cls := hown
  have hl : lv_has ls 4 [(0, .ref S0), (1, .int (iI x)), (2, .ref O0)] := hl
  have hck_13 := hts (.classLink RL 13 "java/lang/IndexOutOfBoundsException") (by decide +kernel)
  refine lv_aload_n hx hb dL_open_0 rfl (lv_at hl 2 rfl) ?_
  refine li_const hx hb dL_open_1 ?_
  refine lv_aload_n hx hb dL_open_2 rfl (lv_at hl 0 rfl) ?_
  refine lv_iload_n hx hb dL_open_3 rfl (lv_at hl 1 rfl) ?_
  refine cl_t (isC := [0, 1, 2, 3, 4, 5, 6, 7, 8, 9, 10, 11]) (isR := [12]) (isN := [1, 2, 3, 4, 5, 6, 7, 8, 9, 10, 11, 12, 0]) (wr := cOu cJ ov O0) (As := [.int (iI x)]) (rest := [.int (iI 0), .ref O0]) (ci := 5) (q0 := 0) ⟨hx, hb, hml, hown, hts⟩ (c_X5_open_no1 hl0 n L a gd w op tn cnt ln dr pl rp S0 L0 W0 W1 G0 G1 G2 B0 B1 B2 B3 P0 L0t x (by first | assumption | omega) (by first | assumption | omega) (by first | assumption | omega) (by first | assumption | omega) (by first | assumption | omega)) (cwV 1 hts gL_open_X5_open rfl rfl rfl (by decide +kernel) ⟨Nat.le_of_ble_eq_true rfl, Nat.le_of_ble_eq_true rfl⟩) hK hNW hXP hP hD hS hA rfl rfl rfl rfl (by decide) rfl rfl rfl rfl rfl rfl hl.1 rfl (Nat.le_of_ble_eq_true rfl) dL_open_4 ⟨Nat.le_of_ble_eq_true rfl, Nat.le_of_ble_eq_true rfl⟩ (fun ce q9 H locs hP hD hS h1 h2 h3 => ?_)
  refine vx_catch (own := RL) (name := "java/lang/IndexOutOfBoundsException") hown [] ⟨0, 9, 12, 13⟩ [⟨0, 9, 15, 20⟩] (by rw [htab]; rfl) (fun z hz => nomatch hz) (by decide) (by decide) hck_13 (hXP.1.use _ (by decide +kernel)) h1 h2 h3 ?_
  show W p l e (rK 26 1 6) s mI args below meth c_0 H locs (0 + 1) (0 + 6) Q (F0 mI 12 ls [.ref q9])
  refine lv_astore_n (lv' := [(3, .ref q9), (0, .ref S0), (1, .int (iI x)), (2, .ref O0)]) hx hb dL_open_12 rfl hl (by decide) rfl (fun ls hl => ?_)
  refine li_const hx hb dL_open_13 ?_
  refine li_wide (k := 1) (n := 6) (Nat.le_of_ble_eq_true rfl) (Nat.le_of_ble_eq_true rfl) ?_
  exact li_iret () hx hb hr hlocks hK hP hD hS dL_open_14 hQ rfl (congrArg iI (rfl))

set_option maxRecDepth 100000 in
set_option maxHeartbeats 4000000 in
theorem c_L_open_no2 {l : Launch} {D : va_G} {cI cZ cJ : ClassId} (hl0 : l.stackTraces = false) (n : Int) (L : Int) (a : Int) (gd : Int) (w : Wt) (op : Int → Int) (tn : Int → Int) (cnt : Int) (ln : Int → Int) (dr : Int → Int) (pl : Int → Int) (rp : Rt) (ov : Nat → Int64) (S0 L0 W0 W1 G0 G1 G2 B0 B1 B2 B3 P0 O0 L0t : Nat) (x : Int) (hn : 1 ≤ n ∧ n ≤ 6) (hL : 5 ≤ L ∧ L ≤ 40) (ha : 1 ≤ a ∧ a ≤ 50) (hw : WI n L a w) (hop : opB op) (htn : tnB tn) (hv : 0 ≤ x ∧ x ≤ n) (hc : opO n L a w op tn x ≠ 0) : CW l yL_open wsL_open 26 [.ref S0, .int (iI x), .ref O0] D (ty3 cI cZ cJ) (cLs   S0 L0 L0t ++ cLa   L0 W0 G0 B0 P0 ++ cWa cI n L a gd w W0 W1 ++ cGa cI cZ op tn G0 G1 G2 ++ cFl cI cnt ln dr pl B0 B1 B2 B3 ++ cRp  rp P0 ++ cOu cJ ov O0) (2) (cLs   S0 L0 L0t ++ cLa   L0 W0 G0 B0 P0 ++ cWa cI n L a gd w W0 W1 ++ cGa cI cZ op tn G0 G1 G2 ++ cFl cI cnt ln dr pl B0 B1 B2 B3 ++ cRp  rp P0 ++ cOu cJ ov O0) := by
  refine ct_w (hh := [(0, 9, 12, 13), (0, 9, 15, 20)]) (plainFor_of_name (by decide)) rfl (Nat.le_of_ble_eq_true rfl) ?_
  intro p e s mI args below meth c_0 ls A hx hb hr hml hts hown hlocks htab hA hP hK hD hNW hXP hNC hS hl Q hQ
  have hown : s.vm.findClass RL = some mI.cls := hown
  have hl : lv_has ls 4 [(0, .ref S0), (1, .int (iI x)), (2, .ref O0)] := hl
  have hck_13 := hts (.classLink RL 13 "java/lang/IndexOutOfBoundsException") (by decide +kernel)
  have hck_20 := hts (.classLink RL 20 "java/lang/IllegalStateException") (by decide +kernel)
  refine lv_aload_n hx hb dL_open_0 rfl (lv_at hl 2 rfl) ?_
  refine li_const hx hb dL_open_1 ?_
  refine lv_aload_n hx hb dL_open_2 rfl (lv_at hl 0 rfl) ?_
  refine lv_iload_n hx hb dL_open_3 rfl (lv_at hl 1 rfl) ?_
  refine cl_t (isC := [0, 1, 2, 3, 4, 5, 6, 7, 8, 9, 10, 11]) (isR := [12]) (isN := [1, 2, 3, 4, 5, 6, 7, 8, 9, 10, 11, 12, 0]) (wr := cOu cJ ov O0) (As := [.int (iI x)]) (rest := [.int (iI 0), .ref O0]) (ci := 5) (q0 := 0) ⟨hx, hb, hml, hown, hts⟩ (c_X5_open_no2 hl0 n L a gd w op tn cnt ln dr pl rp S0 L0 W0 W1 G0 G1 G2 B0 B1 B2 B3 P0 L0t x (by first | assumption | omega) (by first | assumption | omega) (by first | assumption | omega) (by first | assumption | omega) (by first | assumption | omega) (by first | assumption | omega) (by first | assumption | omega) (by first | assumption | omega)) (cwV 1 hts gL_open_X5_open rfl rfl rfl (by decide +kernel) ⟨Nat.le_of_ble_eq_true rfl, Nat.le_of_ble_eq_true rfl⟩) hK hNW hXP hP hD hS hA rfl rfl rfl rfl (by decide) rfl rfl rfl rfl rfl rfl hl.1 rfl (Nat.le_of_ble_eq_true rfl) dL_open_4 ⟨Nat.le_of_ble_eq_true rfl, Nat.le_of_ble_eq_true rfl⟩ (fun ce q9 H locs hP hD hS h1 h2 h3 => ?_)
  refine vx_catch (own := RL) (name := "java/lang/IllegalStateException") hown [⟨0, 9, 12, 13⟩] ⟨0, 9, 15, 20⟩ [] (by rw [htab]; rfl) (fun z hz => by simp only [List.mem_cons, List.not_mem_nil, or_false] at hz; subst hz; exact Or.inr ⟨by decide, "java/lang/IndexOutOfBoundsException", hck_13, hNC.2.1⟩) (by decide) (by decide) hck_20 (hXP.1.use _ (by decide +kernel)) h1 h2 h3 ?_
  show W p l e (rK 26 1 6) s mI args below meth c_0 H locs (0 + 1) (0 + 6) Q (F0 mI 15 ls [.ref q9])
  refine lv_astore_n (lv' := [(3, .ref q9), (0, .ref S0), (1, .int (iI x)), (2, .ref O0)]) hx hb dL_open_15 rfl hl (by decide) rfl (fun ls hl => ?_)
  refine li_const hx hb dL_open_16 ?_
  refine li_wide (k := 1) (n := 6) (Nat.le_of_ble_eq_true rfl) (Nat.le_of_ble_eq_true rfl) ?_
  exact li_iret () hx hb hr hlocks hK hP hD hS dL_open_17 hQ rfl (congrArg iI (rfl))

set_option maxRecDepth 100000 in
set_option maxHeartbeats 4000000 in
theorem c_L_shut_ok {l : Launch} {D : va_G} {cI cZ cJ : ClassId} (n : Int) (L : Int) (a : Int) (gd : Int) (w : Wt) (op : Int → Int) (tn : Int → Int) (cnt : Int) (ln : Int → Int) (dr : Int → Int) (pl : Int → Int) (rp : Rt) (ov : Nat → Int64) (S0 L0 W0 W1 G0 G1 G2 B0 B1 B2 B3 P0 O0 L0t : Nat) (x : Int) (hn : 1 ≤ n ∧ n ≤ 6) (hL : 5 ≤ L ∧ L ≤ 40) (ha : 1 ≤ a ∧ a ≤ 50) (hop : opB op) (hv : 0 ≤ x ∧ x ≤ n) : CW l yL_shut wsL_shut 26 [.ref S0, .int (iI x), .ref O0] D (ty3 cI cZ cJ) (cLs   S0 L0 L0t ++ cLa   L0 W0 G0 B0 P0 ++ cWa cI n L a gd w W0 W1 ++ cGa cI cZ op tn G0 G1 G2 ++ cFl cI cnt ln dr pl B0 B1 B2 B3 ++ cRp  rp P0 ++ cOu cJ ov O0) (0) (cLs   S0 L0 L0t ++ cLa   L0 W0 G0 B0 P0 ++ cWa cI n L a gd w W0 W1 ++ cGa cI cZ (upZ op x 0) tn G0 G1 G2 ++ cFl cI cnt ln dr pl B0 B1 B2 B3 ++ cRp  rp P0 ++ cOu cJ (vp_updL ov 0 (iI (bz (isO op x = true))).toInt64) O0) := by
  refine ct_w (hh := [(0, 16, 19, 13)]) (plainFor_of_name (by decide)) rfl (Nat.le_of_ble_eq_true rfl) ?_
  intro p e s mI args below meth c_0 ls A hx hb hr hml hts hown hlocks htab hA hP hK hD hNW hXP hNC hS hl Q hQ
  have hown : s.vm.findClass RL = some mI.cls := hown
  have hl : lv_has ls 4 [(0, .ref S0), (1, .int (iI x)), (2, .ref O0)] := hl
  refine lv_aload_n hx hb dL_shut_0 rfl (lv_at hl 2 rfl) ?_
  refine li_const hx hb dL_shut_1 ?_
  refine lv_aload_n hx hb dL_shut_2 rfl (lv_at hl 0 rfl) ?_
  refine lv_iload_n hx hb dL_shut_3 rfl (lv_at hl 1 rfl) ?_
  refine cl_i0 (isC := [0, 1, 2, 3, 4, 5, 6, 7, 8, 9, 10, 11]) (isR := [12]) (isN := [1, 2, 3, 4, 5, 6, 7, 8, 9, 10, 11, 12, 0]) (wr := cOu cJ ov O0) (wn := cLs   S0 L0 L0t ++ cLa   L0 W0 G0 B0 P0 ++ cWa cI n L a gd w W0 W1 ++ cGa cI cZ (upZ op x 0) tn G0 G1 G2 ++ cFl cI cnt ln dr pl B0 B1 B2 B3 ++ cRp  rp P0 ++ cOu cJ ov O0) (As := [.int (iI x)]) (rest := [.int (iI 0), .ref O0]) (r := bz (isO op x = true)) (ci := 5) (q0 := 0) ⟨hx, hb, hml, hown, hts⟩ (c_X5_shut_ok n L a gd w op tn cnt ln dr pl rp S0 L0 W0 W1 G0 G1 G2 B0 B1 B2 B3 P0 L0t x (by first | assumption | omega) (by first | assumption | omega) (by first | assumption | omega) (by first | assumption | omega) (by first | assumption | omega)) (cwV 1 hts gL_shut_X5_shut rfl rfl rfl (by decide +kernel) ⟨Nat.le_of_ble_eq_true rfl, Nat.le_of_ble_eq_true rfl⟩) hK hNW hP hD hS hA rfl rfl rfl rfl (by decide) rfl rfl rfl rfl rfl rfl hl.1 rfl (Nat.le_of_ble_eq_true rfl) dL_shut_4 ⟨Nat.zero_le _, Nat.zero_le _⟩ (fun H locs hP hD hS => ?_)
  refine li_ifb_eq (tgt := 14) hx hb dL_shut_7 (by decide) (fun c_7 => ?_) (fun c_7 => ?_)
  · refine lv_lconst (v := 0) hx hb dL_shut_14 rfl ?_
    refine li_last (q0 := 12) (t0 := 2) (w2 := cLs   S0 L0 L0t ++ cLa   L0 W0 G0 B0 P0 ++ cWa cI n L a gd w W0 W1 ++ cGa cI cZ (upZ op x 0) tn G0 G1 G2 ++ cFl cI cnt ln dr pl B0 B1 B2 B3 ++ cRp  rp P0 ++ cOu cJ (vp_updL ov 0 0) O0) hx hb hK hP hD hS rfl rfl dL_shut_15 rfl (fun H locs hP hD hS => ?_)
    refine lv_goto (tgt := 22) hx hb dL_shut_16 (by decide) ?_
    refine li_const hx hb dL_shut_22 ?_
    refine li_wide (k := 1) (n := 6) (Nat.le_of_ble_eq_true rfl) (Nat.le_of_ble_eq_true rfl) ?_
    exact li_iret () hx hb hr hlocks hK hP hD hS dL_shut_23 hQ (by first | rw [bz_t (by assumption)]; rfl | rw [bz_f (by assumption)]; rfl) (congrArg iI (rfl))
  · refine lv_lconst (v := 1) hx hb dL_shut_10 rfl ?_
    refine lv_goto (tgt := 15) hx hb dL_shut_11 (by decide) ?_
    refine li_last (q0 := 12) (t0 := 2) (w2 := cLs   S0 L0 L0t ++ cLa   L0 W0 G0 B0 P0 ++ cWa cI n L a gd w W0 W1 ++ cGa cI cZ (upZ op x 0) tn G0 G1 G2 ++ cFl cI cnt ln dr pl B0 B1 B2 B3 ++ cRp  rp P0 ++ cOu cJ (vp_updL ov 0 1) O0) hx hb hK hP hD hS rfl rfl dL_shut_15 rfl (fun H locs hP hD hS => ?_)
    refine lv_goto (tgt := 22) hx hb dL_shut_16 (by decide) ?_
    refine li_const hx hb dL_shut_22 ?_
    refine li_wide (k := 1) (n := 6) (Nat.le_of_ble_eq_true rfl) (Nat.le_of_ble_eq_true rfl) ?_
    exact li_iret () hx hb hr hlocks hK hP hD hS dL_shut_23 hQ (by first | rw [bz_t (by assumption)]; rfl | rw [bz_f (by assumption)]; rfl) (congrArg iI (rfl))

set_option maxRecDepth 100000 in
set_option maxHeartbeats 4000000 in
theorem c_L_shut_no {l : Launch} {D : va_G} {cI cZ cJ : ClassId} (hl0 : l.stackTraces = false) (n : Int) (L : Int) (a : Int) (gd : Int) (w : Wt) (op : Int → Int) (tn : Int → Int) (cnt : Int) (ln : Int → Int) (dr : Int → Int) (pl : Int → Int) (rp : Rt) (ov : Nat → Int64) (S0 L0 W0 W1 G0 G1 G2 B0 B1 B2 B3 P0 O0 L0t : Nat) (x : Int) (hn : 1 ≤ n ∧ n ≤ 6) (hL : 5 ≤ L ∧ L ≤ 40) (ha : 1 ≤ a ∧ a ≤ 50) (i_x : -2147483648 ≤ x ∧ x < 2147483648) (hv : ¬ (0 ≤ x ∧ x ≤ n)) : CW l yL_shut wsL_shut 26 [.ref S0, .int (iI x), .ref O0] D (ty3 cI cZ cJ) (cLs   S0 L0 L0t ++ cLa   L0 W0 G0 B0 P0 ++ cWa cI n L a gd w W0 W1 ++ cGa cI cZ op tn G0 G1 G2 ++ cFl cI cnt ln dr pl B0 B1 B2 B3 ++ cRp  rp P0 ++ cOu cJ ov O0) (1) (cLs   S0 L0 L0t ++ cLa   L0 W0 G0 B0 P0 ++ cWa cI n L a gd w W0 W1 ++ cGa cI cZ op tn G0 G1 G2 ++ cFl cI cnt ln dr pl B0 B1 B2 B3 ++ cRp  rp P0 ++ cOu cJ ov O0) := by
  refine ct_w (hh := [(0, 16, 19, 13)]) (plainFor_of_name (by decide)) rfl (Nat.le_of_ble_eq_true rfl) ?_
  intro p e s mI args below meth c_0 ls A hx hb hr hml hts hown hlocks htab hA hP hK hD hNW hXP hNC hS hl Q hQ
  have hown : s.vm.findClass RL = some mI.cls := hown
  have hl : lv_has ls 4 [(0, .ref S0), (1, .int (iI x)), (2, .ref O0)] := hl
  have hck_13 := hts (.classLink RL 13 "java/lang/IndexOutOfBoundsException") (by decide +kernel)
  refine lv_aload_n hx hb dL_shut_0 rfl (lv_at hl 2 rfl) ?_
  refine li_const hx hb dL_shut_1 ?_
  refine lv_aload_n hx hb dL_shut_2 rfl (lv_at hl 0 rfl) ?_
  refine lv_iload_n hx hb dL_shut_3 rfl (lv_at hl 1 rfl) ?_
  refine cl_t (isC := [0, 1, 2, 3, 4, 5, 6, 7, 8, 9, 10, 11]) (isR := [12]) (isN := [1, 2, 3, 4, 5, 6, 7, 8, 9, 10, 11, 12, 0]) (wr := cOu cJ ov O0) (As := [.int (iI x)]) (rest := [.int (iI 0), .ref O0]) (ci := 5) (q0 := 0) ⟨hx, hb, hml, hown, hts⟩ (c_X5_shut_no hl0 n L a gd w op tn cnt ln dr pl rp S0 L0 W0 W1 G0 G1 G2 B0 B1 B2 B3 P0 L0t x (by first | assumption | omega) (by first | assumption | omega) (by first | assumption | omega) (by first | assumption | omega) (by first | assumption | omega)) (cwV 1 hts gL_shut_X5_shut rfl rfl rfl (by decide +kernel) ⟨Nat.le_of_ble_eq_true rfl, Nat.le_of_ble_eq_true rfl⟩) hK hNW hXP hP hD hS hA rfl rfl rfl rfl (by decide) rfl rfl rfl rfl rfl rfl hl.1 rfl (Nat.le_of_ble_eq_true rfl) dL_shut_4 ⟨Nat.le_of_ble_eq_true rfl, Nat.le_of_ble_eq_true rfl⟩ (fun ce q9 H locs hP hD hS h1 h2 h3 => ?_)
  refine vx_catch (own := RL) (name := "java/lang/IndexOutOfBoundsException") hown [] ⟨0, 16, 19, 13⟩ [] (by rw [htab]; rfl) (fun z hz => nomatch hz) (by decide) (by decide) hck_13 (hXP.1.use _ (by decide +kernel)) h1 h2 h3 ?_
  show W p l e (rK 26 1 6) s mI args below meth c_0 H locs (0 + 1) (0 + 6) Q (F0 mI 19 ls [.ref q9])
  refine lv_astore_n (lv' := [(3, .ref q9), (0, .ref S0), (1, .int (iI x)), (2, .ref O0)]) hx hb dL_shut_19 rfl hl (by decide) rfl (fun ls hl => ?_)
  refine li_const hx hb dL_shut_20 ?_
  refine li_wide (k := 1) (n := 6) (Nat.le_of_ble_eq_true rfl) (Nat.le_of_ble_eq_true rfl) ?_
  exact li_iret () hx hb hr hlocks hK hP hD hS dL_shut_21 hQ rfl (congrArg iI (rfl))

set_option maxRecDepth 100000 in
set_option maxHeartbeats 4000000 in
theorem c_L_turnsOf_ok {l : Launch} {D : va_G} {cI cZ cJ : ClassId} (n : Int) (L : Int) (a : Int) (gd : Int) (w : Wt) (op : Int → Int) (tn : Int → Int) (cnt : Int) (ln : Int → Int) (dr : Int → Int) (pl : Int → Int) (rp : Rt) (ov : Nat → Int64) (S0 L0 W0 W1 G0 G1 G2 B0 B1 B2 B3 P0 O0 L0t : Nat) (x : Int) (hn : 1 ≤ n ∧ n ≤ 6) (hL : 5 ≤ L ∧ L ≤ 40) (ha : 1 ≤ a ∧ a ≤ 50) (htn : tnB tn) (hv : 0 ≤ x ∧ x ≤ n) : CW l yL_turnsOf wsL_turnsOf 26 [.ref S0, .int (iI x), .ref O0] D (ty3 cI cZ cJ) (cLs   S0 L0 L0t ++ cLa   L0 W0 G0 B0 P0 ++ cWa cI n L a gd w W0 W1 ++ cGa cI cZ op tn G0 G1 G2 ++ cFl cI cnt ln dr pl B0 B1 B2 B3 ++ cRp  rp P0 ++ cOu cJ ov O0) (0) (cLs   S0 L0 L0t ++ cLa   L0 W0 G0 B0 P0 ++ cWa cI n L a gd w W0 W1 ++ cGa cI cZ op tn G0 G1 G2 ++ cFl cI cnt ln dr pl B0 B1 B2 B3 ++ cRp  rp P0 ++ cOu cJ (vp_updL ov 0 (iI (tnA tn x)).toInt64) O0) := by
  refine ct_w (hh := [(0, 9, 12, 13)]) (plainFor_of_name (by decide)) rfl (Nat.le_of_ble_eq_true rfl) ?_
  intro p e s mI args below meth c_0 ls A hx hb hr hml hts hown hlocks htab hA hP hK hD hNW hXP hNC hS hl Q hQ
  have hown : s.vm.findClass RL = some mI.cls := hown
  have hl : lv_has ls 4 [(0, .ref S0), (1, .int (iI x)), (2, .ref O0)] := hl
  refine lv_aload_n hx hb dL_turnsOf_0 rfl (lv_at hl 2 rfl) ?_
  refine li_const hx hb dL_turnsOf_1 ?_
  refine lv_aload_n hx hb dL_turnsOf_2 rfl (lv_at hl 0 rfl) ?_
  refine lv_iload_n hx hb dL_turnsOf_3 rfl (lv_at hl 1 rfl) ?_
  refine cl_i0 (isC := [0, 1, 2, 3, 4, 5, 6, 7, 8, 9, 10, 11]) (isR := [12]) (isN := [1, 2, 3, 4, 5, 6, 7, 8, 9, 10, 11, 12, 0]) (wr := cOu cJ ov O0) (wn := cLs   S0 L0 L0t ++ cLa   L0 W0 G0 B0 P0 ++ cWa cI n L a gd w W0 W1 ++ cGa cI cZ op tn G0 G1 G2 ++ cFl cI cnt ln dr pl B0 B1 B2 B3 ++ cRp  rp P0 ++ cOu cJ ov O0) (As := [.int (iI x)]) (rest := [.int (iI 0), .ref O0]) (r := tnA tn x) (ci := 5) (q0 := 0) ⟨hx, hb, hml, hown, hts⟩ (c_X5_turnsOf_ok n L a gd w op tn cnt ln dr pl rp S0 L0 W0 W1 G0 G1 G2 B0 B1 B2 B3 P0 L0t x (by first | assumption | omega) (by first | assumption | omega) (by first | assumption | omega) (by first | assumption | omega) (by first | assumption | omega)) (cwV 1 hts gL_turnsOf_X5_turnsOf rfl rfl rfl (by decide +kernel) ⟨Nat.le_of_ble_eq_true rfl, Nat.le_of_ble_eq_true rfl⟩) hK hNW hP hD hS hA rfl rfl rfl rfl (by decide) rfl rfl rfl rfl rfl rfl hl.1 rfl (Nat.le_of_ble_eq_true rfl) dL_turnsOf_4 ⟨Nat.zero_le _, Nat.zero_le _⟩ (fun H locs hP hD hS => ?_)
  refine lv_i2l (v := (iI (tnA tn x)).toInt64) hx hb dL_turnsOf_7 rfl ?_
  refine li_last (q0 := 12) (t0 := 2) (w2 := cLs   S0 L0 L0t ++ cLa   L0 W0 G0 B0 P0 ++ cWa cI n L a gd w W0 W1 ++ cGa cI cZ op tn G0 G1 G2 ++ cFl cI cnt ln dr pl B0 B1 B2 B3 ++ cRp  rp P0 ++ cOu cJ (vp_updL ov 0 ((iI (tnA tn x)).toInt64)) O0) hx hb hK hP hD hS rfl rfl dL_turnsOf_8 rfl (fun H locs hP hD hS => ?_)
  refine lv_goto (tgt := 15) hx hb dL_turnsOf_9 (by decide) ?_
  refine li_const hx hb dL_turnsOf_15 ?_
  refine li_wide (k := 1) (n := 6) (Nat.le_of_ble_eq_true rfl) (Nat.le_of_ble_eq_true rfl) ?_
  exact li_iret () hx hb hr hlocks hK hP hD hS dL_turnsOf_16 hQ rfl (congrArg iI (rfl))

set_option maxRecDepth 100000 in
set_option maxHeartbeats 4000000 in
theorem c_L_turnsOf_no {l : Launch} {D : va_G} {cI cZ cJ : ClassId} (hl0 : l.stackTraces = false) (n : Int) (L : Int) (a : Int) (gd : Int) (w : Wt) (op : Int → Int) (tn : Int → Int) (cnt : Int) (ln : Int → Int) (dr : Int → Int) (pl : Int → Int) (rp : Rt) (ov : Nat → Int64) (S0 L0 W0 W1 G0 G1 G2 B0 B1 B2 B3 P0 O0 L0t : Nat) (x : Int) (hn : 1 ≤ n ∧ n ≤ 6) (hL : 5 ≤ L ∧ L ≤ 40) (ha : 1 ≤ a ∧ a ≤ 50) (i_x : -2147483648 ≤ x ∧ x < 2147483648) (hv : ¬ (0 ≤ x ∧ x ≤ n)) : CW l yL_turnsOf wsL_turnsOf 26 [.ref S0, .int (iI x), .ref O0] D (ty3 cI cZ cJ) (cLs   S0 L0 L0t ++ cLa   L0 W0 G0 B0 P0 ++ cWa cI n L a gd w W0 W1 ++ cGa cI cZ op tn G0 G1 G2 ++ cFl cI cnt ln dr pl B0 B1 B2 B3 ++ cRp  rp P0 ++ cOu cJ ov O0) (1) (cLs   S0 L0 L0t ++ cLa   L0 W0 G0 B0 P0 ++ cWa cI n L a gd w W0 W1 ++ cGa cI cZ op tn G0 G1 G2 ++ cFl cI cnt ln dr pl B0 B1 B2 B3 ++ cRp  rp P0 ++ cOu cJ ov O0) := by
  refine ct_w (hh := [(0, 9, 12, 13)]) (plainFor_of_name (by decide)) rfl (Nat.le_of_ble_eq_true rfl) ?_
  intro p e s mI args below meth c_0 ls A hx hb hr hml hts hown hlocks htab hA hP hK hD hNW hXP hNC hS hl Q hQ
  have hown : s.vm.findClass RL = some mI.cls := hown
  have hl : lv_has ls 4 [(0, .ref S0), (1, .int (iI x)), (2, .ref O0)] := hl
  have hck_13 := hts (.classLink RL 13 "java/lang/IndexOutOfBoundsException") (by decide +kernel)
  refine lv_aload_n hx hb dL_turnsOf_0 rfl (lv_at hl 2 rfl) ?_
  refine li_const hx hb dL_turnsOf_1 ?_
  refine lv_aload_n hx hb dL_turnsOf_2 rfl (lv_at hl 0 rfl) ?_
  refine lv_iload_n hx hb dL_turnsOf_3 rfl (lv_at hl 1 rfl) ?_
  refine cl_t (isC := [0, 1, 2, 3, 4, 5, 6, 7, 8, 9, 10, 11]) (isR := [12]) (isN := [1, 2, 3, 4, 5, 6, 7, 8, 9, 10, 11, 12, 0]) (wr := cOu cJ ov O0) (As := [.int (iI x)]) (rest := [.int (iI 0), .ref O0]) (ci := 5) (q0 := 0) ⟨hx, hb, hml, hown, hts⟩ (c_X5_turnsOf_no hl0 n L a gd w op tn cnt ln dr pl rp S0 L0 W0 W1 G0 G1 G2 B0 B1 B2 B3 P0 L0t x (by first | assumption | omega) (by first | assumption | omega) (by first | assumption | omega) (by first | assumption | omega) (by first | assumption | omega)) (cwV 1 hts gL_turnsOf_X5_turnsOf rfl rfl rfl (by decide +kernel) ⟨Nat.le_of_ble_eq_true rfl, Nat.le_of_ble_eq_true rfl⟩) hK hNW hXP hP hD hS hA rfl rfl rfl rfl (by decide) rfl rfl rfl rfl rfl rfl hl.1 rfl (Nat.le_of_ble_eq_true rfl) dL_turnsOf_4 ⟨Nat.le_of_ble_eq_true rfl, Nat.le_of_ble_eq_true rfl⟩ (fun ce q9 H locs hP hD hS h1 h2 h3 => ?_)
  refine vx_catch (own := RL) (name := "java/lang/IndexOutOfBoundsException") hown [] ⟨0, 9, 12, 13⟩ [] (by rw [htab]; rfl) (fun z hz => nomatch hz) (by decide) (by decide) hck_13 (hXP.1.use _ (by decide +kernel)) h1 h2 h3 ?_
  show W p l e (rK 26 1 6) s mI args below meth c_0 H locs (0 + 1) (0 + 6) Q (F0 mI 12 ls [.ref q9])
  refine lv_astore_n (lv' := [(3, .ref q9), (0, .ref S0), (1, .int (iI x)), (2, .ref O0)]) hx hb dL_turnsOf_12 rfl hl (by decide) rfl (fun ls hl => ?_)
  refine li_const hx hb dL_turnsOf_13 ?_
  refine li_wide (k := 1) (n := 6) (Nat.le_of_ble_eq_true rfl) (Nat.le_of_ble_eq_true rfl) ?_
  exact li_iret () hx hb hr hlocks hK hP hD hS dL_turnsOf_14 hQ rfl (congrArg iI (rfl))

set_option maxRecDepth 100000 in
set_option maxHeartbeats 4000000 in
theorem c_L_wind_ok {l : Launch} {D : va_G} {cI cZ cJ : ClassId} (n : Int) (L : Int) (a : Int) (gd : Int) (w : Wt) (op : Int → Int) (tn : Int → Int) (cnt : Int) (ln : Int → Int) (dr : Int → Int) (pl : Int → Int) (rp : Rt) (ov : Nat → Int64) (S0 L0 W0 W1 G0 G1 G2 B0 B1 B2 B3 P0 O0 L0t : Nat) (x : Int) (y : Int) (hn : 1 ≤ n ∧ n ≤ 6) (hL : 5 ≤ L ∧ L ≤ 40) (ha : 1 ≤ a ∧ a ≤ 50) (hop : opB op) (htn : tnB tn) (hv : 0 ≤ x ∧ x ≤ n) (hy2 : 0 ≤ y ∧ y ≤ 5) (hb9 : y = 0 ∨ ¬ beO op x = true) : CW l yL_wind wsL_wind 26 [.ref S0, .int (iI x), .int (iI y), .ref O0] D (ty3 cI cZ cJ) (cLs   S0 L0 L0t ++ cLa   L0 W0 G0 B0 P0 ++ cWa cI n L a gd w W0 W1 ++ cGa cI cZ op tn G0 G1 G2 ++ cFl cI cnt ln dr pl B0 B1 B2 B3 ++ cRp  rp P0 ++ cOu cJ ov O0) (0) (cLs   S0 L0 L0t ++ cLa   L0 W0 G0 B0 P0 ++ cWa cI n L a gd w W0 W1 ++ cGa cI cZ op (upZ tn x y) G0 G1 G2 ++ cFl cI cnt ln dr pl B0 B1 B2 B3 ++ cRp  rp P0 ++ cOu cJ (vp_updL ov 0 (iI (tnA tn x)).toInt64) O0) := by
  refine ct_w (hh := [(0, 10, 13, 13), (0, 10, 17, 18), (0, 10, 21, 20)]) (plainFor_of_name (by decide)) rfl (Nat.le_of_ble_eq_true rfl) ?_
  intro p e s mI args below meth c_0 ls A hx hb hr hml hts hown hlocks htab hA hP hK hD hNW hXP hNC hS hl Q hQ
  have hown : s.vm.findClass RL = some mI.cls := hown
  have hl : lv_has ls 5 [(0, .ref S0), (1, .int (iI x)), (2, .int (iI y)), (3, .ref O0)] := hl
  refine lv_aload_n hx hb dL_wind_0 rfl (lv_at hl 3 rfl) ?_
  refine li_const hx hb dL_wind_1 ?_
  refine lv_aload_n hx hb dL_wind_2 rfl (lv_at hl 0 rfl) ?_
  refine lv_iload_n hx hb dL_wind_3 rfl (lv_at hl 1 rfl) ?_
  refine lv_iload_n hx hb dL_wind_4 rfl (lv_at hl 2 rfl) ?_
  refine cl_i0 (isC := [0, 1, 2, 3, 4, 5, 6, 7, 8, 9, 10, 11]) (isR := [12]) (isN := [1, 2, 3, 4, 5, 6, 7, 8, 9, 10, 11, 12, 0]) (wr := cOu cJ ov O0) (wn := cLs   S0 L0 L0t ++ cLa   L0 W0 G0 B0 P0 ++ cWa cI n L a gd w W0 W1 ++ cGa cI cZ op (upZ tn x y) G0 G1 G2 ++ cFl cI cnt ln dr pl B0 B1 B2 B3 ++ cRp  rp P0 ++ cOu cJ ov O0) (As := [.int (iI x), .int (iI y)]) (rest := [.int (iI 0), .ref O0]) (r := tnA tn x) (ci := 5) (q0 := 0) ⟨hx, hb, hml, hown, hts⟩ (c_X5_wind_ok n L a gd w op tn cnt ln dr pl rp S0 L0 W0 W1 G0 G1 G2 B0 B1 B2 B3 P0 L0t x y (by first | assumption | omega) (by first | assumption | omega) (by first | assumption | omega) (by first | assumption | omega) (by first | assumption | omega) (by first | assumption | omega) (by first | assumption | omega) (by first | assumption | omega)) (cwV 2 hts gL_wind_X5_wind rfl rfl rfl (by decide +kernel) ⟨Nat.le_of_ble_eq_true rfl, Nat.le_of_ble_eq_true rfl⟩) hK hNW hP hD hS hA rfl rfl rfl rfl (by decide) rfl rfl rfl rfl rfl rfl hl.1 rfl (Nat.le_of_ble_eq_true rfl) dL_wind_5 ⟨Nat.zero_le _, Nat.zero_le _⟩ (fun H locs hP hD hS => ?_)
  refine lv_i2l (v := (iI (tnA tn x)).toInt64) hx hb dL_wind_8 rfl ?_
  refine li_last (q0 := 12) (t0 := 2) (w2 := cLs   S0 L0 L0t ++ cLa   L0 W0 G0 B0 P0 ++ cWa cI n L a gd w W0 W1 ++ cGa cI cZ op (upZ tn x y) G0 G1 G2 ++ cFl cI cnt ln dr pl B0 B1 B2 B3 ++ cRp  rp P0 ++ cOu cJ (vp_updL ov 0 ((iI (tnA tn x)).toInt64)) O0) hx hb hK hP hD hS rfl rfl dL_wind_9 rfl (fun H locs hP hD hS => ?_)
  refine lv_goto (tgt := 25) hx hb dL_wind_10 (by decide) ?_
  refine li_const hx hb dL_wind_25 ?_
  refine li_wide (k := 1) (n := 6) (Nat.le_of_ble_eq_true rfl) (Nat.le_of_ble_eq_true rfl) ?_
  exact li_iret () hx hb hr hlocks hK hP hD hS dL_wind_26 hQ rfl (congrArg iI (rfl))

set_option maxRecDepth 100000 in
set_option maxHeartbeats 4000000 in
theorem c_L_wind_no1 {l : Launch} {D : va_G} {cI cZ cJ : ClassId} (hl0 : l.stackTraces = false) (n : Int) (L : Int) (a : Int) (gd : Int) (w : Wt) (op : Int → Int) (tn : Int → Int) (cnt : Int) (ln : Int → Int) (dr : Int → Int) (pl : Int → Int) (rp : Rt) (ov : Nat → Int64) (S0 L0 W0 W1 G0 G1 G2 B0 B1 B2 B3 P0 O0 L0t : Nat) (x : Int) (y : Int) (hn : 1 ≤ n ∧ n ≤ 6) (hL : 5 ≤ L ∧ L ≤ 40) (ha : 1 ≤ a ∧ a ≤ 50) (i_x : -2147483648 ≤ x ∧ x < 2147483648) (hv : ¬ (0 ≤ x ∧ x ≤ n)) : CW l yL_wind wsL_wind 26 [.ref S0, .int (iI x), .int (iI y), .ref O0] D (ty3 cI cZ cJ) (cLs   S0 L0 L0t ++ cLa   L0 W0 G0 B0 P0 ++ cWa cI n L a gd w W0 W1 ++ cGa cI cZ op tn G0 G1 G2 ++ cFl cI cnt ln dr pl B0 B1 B2 B3 ++ cRp  rp P0 ++ cOu cJ ov O0) (1) (cLs   S0 L0 L0t ++ cLa   L0 W0 G0 B0 P0 ++ cWa cI n L a gd w W0 W1 ++ cGa cI cZ op tn G0 G1 G2 ++ cFl cI cnt ln dr pl B0 B1 B2 B3 ++ cRp  rp P0 ++ cOu cJ ov O0) := by
  refine ct_w (hh := [(0, 10, 13, 13), (0, 10, 17, 18), (0, 10, 21, 20)]) (plainFor_of_name (by decide)) rfl (Nat.le_of_ble_eq_true rfl) ?_
  intro p e s mI args below meth c_0 ls A hx hb hr hml hts hown hlocks htab hA hP hK hD hNW hXP hNC hS hl Q hQ
  have hown : s.vm.findClass RL = some mI.cls := hown
  have hl : lv_has ls 5 [(0, .ref S0), (1, .int (iI x)), (2, .int (iI y)), (3, .ref O0)] := hl
  have hck_13 := hts (.classLink RL 13 "java/lang/IndexOutOfBoundsException") (by decide +kernel)
  refine lv_aload_n hx hb dL_wind_0 rfl (lv_at hl 3 rfl) ?_
  refine li_const hx hb dL_wind_1 ?_
  refine lv_aload_n hx hb dL_wind_2 rfl (lv_at hl 0 rfl) ?_
  refine lv_iload_n hx hb dL_wind_3 rfl (lv_at hl 1 rfl) ?_
  refine lv_iload_n hx hb dL_wind_4 rfl (lv_at hl 2 rfl) ?_
  refine cl_t (isC := [0, 1, 2, 3, 4, 5, 6, 7, 8, 9, 10, 11]) (isR := [12]) (isN := [1, 2, 3, 4, 5, 6, 7, 8, 9, 10, 11, 12, 0]) (wr := cOu cJ ov O0) (As := [.int (iI x), .int (iI y)]) (rest := [.int (iI 0), .ref O0]) (ci := 5) (q0 := 0) ⟨hx, hb, hml, hown, hts⟩ (c_X5_wind_no1 hl0 n L a gd w op tn cnt ln dr pl rp S0 L0 W0 W1 G0 G1 G2 B0 B1 B2 B3 P0 L0t x y (by first | assumption | omega) (by first | assumption | omega) (by first | assumption | omega) (by first | assumption | omega) (by first | assumption | omega)) (cwV 2 hts gL_wind_X5_wind rfl rfl rfl (by decide +kernel) ⟨Nat.le_of_ble_eq_true rfl, Nat.le_of_ble_eq_true rfl⟩) hK hNW hXP hP hD hS hA rfl rfl rfl rfl (by decide) rfl rfl rfl rfl rfl rfl hl.1 rfl (Nat.le_of_ble_eq_true rfl) dL_wind_5 ⟨Nat.le_of_ble_eq_true rfl, Nat.le_of_ble_eq_true rfl⟩ (fun ce q9 H locs hP hD hS h1 h2 h3 => ?_)
  refine vx_catch (own := RL) (name := "java/lang/IndexOutOfBoundsException") hown [] ⟨0, 10, 13, 13⟩ [⟨0, 10, 17, 18⟩, ⟨0, 10, 21, 20⟩] (by rw [htab]; rfl) (fun z hz => nomatch hz) (by decide) (by decide) hck_13 (hXP.1.use _ (by decide +kernel)) h1 h2 h3 ?_
  show W p l e (rK 26 1 6) s mI args below meth c_0 H locs (0 + 1) (0 + 6) Q (F0 mI 13 ls [.ref q9])
  refine lv_astore (lv' := [(4, .ref q9), (0, .ref S0), (1, .int (iI x)), (2, .int (iI y)), (3, .ref O0)]) hx hb dL_wind_13 hl (by decide) rfl (fun ls hl => ?_)
  refine li_const hx hb dL_wind_15 ?_
  refine li_wide (k := 1) (n := 6) (Nat.le_of_ble_eq_true rfl) (Nat.le_of_ble_eq_true rfl) ?_
  exact li_iret () hx hb hr hlocks hK hP hD hS dL_wind_16 hQ rfl (congrArg iI (rfl))

set_option maxRecDepth 100000 in
set_option maxHeartbeats 4000000 in
theorem c_L_wind_no2 {l : Launch} {D : va_G} {cI cZ cJ : ClassId} (hl0 : l.stackTraces = false) (n : Int) (L : Int) (a : Int) (gd : Int) (w : Wt) (op : Int → Int) (tn : Int → Int) (cnt : Int) (ln : Int → Int) (dr : Int → Int) (pl : Int → Int) (rp : Rt) (ov : Nat → Int64) (S0 L0 W0 W1 G0 G1 G2 B0 B1 B2 B3 P0 O0 L0t : Nat) (x : Int) (y : Int) (hn : 1 ≤ n ∧ n ≤ 6) (hL : 5 ≤ L ∧ L ≤ 40) (ha : 1 ≤ a ∧ a ≤ 50) (hv : 0 ≤ x ∧ x ≤ n) (i_y : -2147483648 ≤ y ∧ y < 2147483648) (hy2 : ¬ (0 ≤ y ∧ y ≤ 5)) : CW l yL_wind wsL_wind 26 [.ref S0, .int (iI x), .int (iI y), .ref O0] D (ty3 cI cZ cJ) (cLs   S0 L0 L0t ++ cLa   L0 W0 G0 B0 P0 ++ cWa cI n L a gd w W0 W1 ++ cGa cI cZ op tn G0 G1 G2 ++ cFl cI cnt ln dr pl B0 B1 B2 B3 ++ cRp  rp P0 ++ cOu cJ ov O0) (2) (cLs   S0 L0 L0t ++ cLa   L0 W0 G0 B0 P0 ++ cWa cI n L a gd w W0 W1 ++ cGa cI cZ op tn G0 G1 G2 ++ cFl cI cnt ln dr pl B0 B1 B2 B3 ++ cRp  rp P0 ++ cOu cJ ov O0) := by
  refine ct_w (hh := [(0, 10, 13, 13), (0, 10, 17, 18), (0, 10, 21, 20)]) (plainFor_of_name (by decide)) rfl (Nat.le_of_ble_eq_true rfl) ?_
  intro p e s mI args below meth c_0 ls A hx hb hr hml hts hown hlocks htab hA hP hK hD hNW hXP hNC hS hl Q hQ
  have hown : s.vm.findClass RL = some mI.cls := hown
  have hl : lv_has ls 5 [(0, .ref S0), (1, .int (iI x)), (2, .int (iI y)), (3, .ref O0)] := hl
  have hck_13 := hts (.classLink RL 13 "java/lang/IndexOutOfBoundsException") (by decide +kernel)
  have hck_18 := hts (.classLink RL 18 "java/lang/IllegalArgumentException") (by decide +kernel)
  refine lv_aload_n hx hb dL_wind_0 rfl (lv_at hl 3 rfl) ?_
  refine li_const hx hb dL_wind_1 ?_
  refine lv_aload_n hx hb dL_wind_2 rfl (lv_at hl 0 rfl) ?_
  refine lv_iload_n hx hb dL_wind_3 rfl (lv_at hl 1 rfl) ?_
  refine lv_iload_n hx hb dL_wind_4 rfl (lv_at hl 2 rfl) ?_
  refine cl_t (isC := [0, 1, 2, 3, 4, 5, 6, 7, 8, 9, 10, 11]) (isR := [12]) (isN := [1, 2, 3, 4, 5, 6, 7, 8, 9, 10, 11, 12, 0]) (wr := cOu cJ ov O0) (As := [.int (iI x), .int (iI y)]) (rest := [.int (iI 0), .ref O0]) (ci := 5) (q0 := 0) ⟨hx, hb, hml, hown, hts⟩ (c_X5_wind_no2 hl0 n L a gd w op tn cnt ln dr pl rp S0 L0 W0 W1 G0 G1 G2 B0 B1 B2 B3 P0 L0t x y (by first | assumption | omega) (by first | assumption | omega) (by first | assumption | omega) (by first | assumption | omega) (by first | assumption | omega) (by first | assumption | omega)) (cwV 2 hts gL_wind_X5_wind rfl rfl rfl (by decide +kernel) ⟨Nat.le_of_ble_eq_true rfl, Nat.le_of_ble_eq_true rfl⟩) hK hNW hXP hP hD hS hA rfl rfl rfl rfl (by decide) rfl rfl rfl rfl rfl rfl hl.1 rfl (Nat.le_of_ble_eq_true rfl) dL_wind_5 ⟨Nat.le_of_ble_eq_true rfl, Nat.le_of_ble_eq_true rfl⟩ (fun ce q9 H locs hP hD hS h1 h2 h3 => ?_)
  refine vx_catch (own := RL) (name := "java/lang/IllegalArgumentException") hown [⟨0, 10, 13, 13⟩] ⟨0, 10, 17, 18⟩ [⟨0, 10, 21, 20⟩] (by rw [htab]; rfl) (fun z hz => by simp only [List.mem_cons, List.not_mem_nil, or_false] at hz; subst hz; exact Or.inr ⟨by decide, "java/lang/IndexOutOfBoundsException", hck_13, hNC.1⟩) (by decide) (by decide) hck_18 (hXP.1.use _ (by decide +kernel)) h1 h2 h3 ?_
  show W p l e (rK 26 1 6) s mI args below meth c_0 H locs (0 + 1) (0 + 6) Q (F0 mI 17 ls [.ref q9])
  refine lv_astore (lv' := [(4, .ref q9), (0, .ref S0), (1, .int (iI x)), (2, .int (iI y)), (3, .ref O0)]) hx hb dL_wind_17 hl (by decide) rfl (fun ls hl => ?_)
  refine li_const hx hb dL_wind_19 ?_
  refine li_wide (k := 1) (n := 6) (Nat.le_of_ble_eq_true rfl) (Nat.le_of_ble_eq_true rfl) ?_
  exact li_iret () hx hb hr hlocks hK hP hD hS dL_wind_20 hQ rfl (congrArg iI (rfl))

set_option maxRecDepth 100000 in
set_option maxHeartbeats 4000000 in
theorem c_L_wind_no3 {l : Launch} {D : va_G} {cI cZ cJ : ClassId} (hl0 : l.stackTraces = false) (n : Int) (L : Int) (a : Int) (gd : Int) (w : Wt) (op : Int → Int) (tn : Int → Int) (cnt : Int) (ln : Int → Int) (dr : Int → Int) (pl : Int → Int) (rp : Rt) (ov : Nat → Int64) (S0 L0 W0 W1 G0 G1 G2 B0 B1 B2 B3 P0 O0 L0t : Nat) (x : Int) (y : Int) (hn : 1 ≤ n ∧ n ≤ 6) (hL : 5 ≤ L ∧ L ≤ 40) (ha : 1 ≤ a ∧ a ≤ 50) (hop : opB op) (hv : 0 ≤ x ∧ x ≤ n) (hy2 : 0 ≤ y ∧ y ≤ 5) (hb9 : y ≠ 0 ∧ beO op x = true) : CW l yL_wind wsL_wind 26 [.ref S0, .int (iI x), .int (iI y), .ref O0] D (ty3 cI cZ cJ) (cLs   S0 L0 L0t ++ cLa   L0 W0 G0 B0 P0 ++ cWa cI n L a gd w W0 W1 ++ cGa cI cZ op tn G0 G1 G2 ++ cFl cI cnt ln dr pl B0 B1 B2 B3 ++ cRp  rp P0 ++ cOu cJ ov O0) (3) (cLs   S0 L0 L0t ++ cLa   L0 W0 G0 B0 P0 ++ cWa cI n L a gd w W0 W1 ++ cGa cI cZ op tn G0 G1 G2 ++ cFl cI cnt ln dr pl B0 B1 B2 B3 ++ cRp  rp P0 ++ cOu cJ ov O0) := by
  refine ct_w (hh := [(0, 10, 13, 13), (0, 10, 17, 18), (0, 10, 21, 20)]) (plainFor_of_name (by decide)) rfl (Nat.le_of_ble_eq_true rfl) ?_
  intro p e s mI args below meth c_0 ls A hx hb hr hml hts hown hlocks htab hA hP hK hD hNW hXP hNC hS hl Q hQ
  have hown : s.vm.findClass RL = some mI.cls := hown
  have hl : lv_has ls 5 [(0, .ref S0), (1, .int (iI x)), (2, .int (iI y)), (3, .ref O0)] := hl
  have hck_13 := hts (.classLink RL 13 "java/lang/IndexOutOfBoundsException") (by decide +kernel)
  have hck_18 := hts (.classLink RL 18 "java/lang/IllegalArgumentException") (by decide +kernel)
  have hck_20 := hts (.classLink RL 20 "java/lang/IllegalStateException") (by decide +kernel)
  refine lv_aload_n hx hb dL_wind_0 rfl (lv_at hl 3 rfl) ?_
  refine li_const hx hb dL_wind_1 ?_
  refine lv_aload_n hx hb dL_wind_2 rfl (lv_at hl 0 rfl) ?_
  refine lv_iload_n hx hb dL_wind_3 rfl (lv_at hl 1 rfl) ?_
  refine lv_iload_n hx hb dL_wind_4 rfl (lv_at hl 2 rfl) ?_
  refine cl_t (isC := [0, 1, 2, 3, 4, 5, 6, 7, 8, 9, 10, 11]) (isR := [12]) (isN := [1, 2, 3, 4, 5, 6, 7, 8, 9, 10, 11, 12, 0]) (wr := cOu cJ ov O0) (As := [.int (iI x), .int (iI y)]) (rest := [.int (iI 0), .ref O0]) (ci := 5) (q0 := 0) ⟨hx, hb, hml, hown, hts⟩ (c_X5_wind_no3 hl0 n L a gd w op tn cnt ln dr pl rp S0 L0 W0 W1 G0 G1 G2 B0 B1 B2 B3 P0 L0t x y (by first | assumption | omega) (by first | assumption | omega) (by first | assumption | omega) (by first | assumption | omega) (by first | assumption | omega) (by first | assumption | omega) (by first | assumption | omega)) (cwV 2 hts gL_wind_X5_wind rfl rfl rfl (by decide +kernel) ⟨Nat.le_of_ble_eq_true rfl, Nat.le_of_ble_eq_true rfl⟩) hK hNW hXP hP hD hS hA rfl rfl rfl rfl (by decide) rfl rfl rfl rfl rfl rfl hl.1 rfl (Nat.le_of_ble_eq_true rfl) dL_wind_5 ⟨Nat.le_of_ble_eq_true rfl, Nat.le_of_ble_eq_true rfl⟩ (fun ce q9 H locs hP hD hS h1 h2 h3 => ?_)
  refine vx_catch (own := RL) (name := "java/lang/IllegalStateException") hown [⟨0, 10, 13, 13⟩, ⟨0, 10, 17, 18⟩] ⟨0, 10, 21, 20⟩ [] (by rw [htab]; rfl) (fun z hz => by simp only [List.mem_cons, List.not_mem_nil, or_false] at hz; rcases hz with rfl | rfl; exact Or.inr ⟨by decide, "java/lang/IndexOutOfBoundsException", hck_13, hNC.2.1⟩; exact Or.inr ⟨by decide, "java/lang/IllegalArgumentException", hck_18, hNC.2.2⟩) (by decide) (by decide) hck_20 (hXP.1.use _ (by decide +kernel)) h1 h2 h3 ?_
  show W p l e (rK 26 1 6) s mI args below meth c_0 H locs (0 + 1) (0 + 6) Q (F0 mI 21 ls [.ref q9])
  refine lv_astore (lv' := [(4, .ref q9), (0, .ref S0), (1, .int (iI x)), (2, .int (iI y)), (3, .ref O0)]) hx hb dL_wind_21 hl (by decide) rfl (fun ls hl => ?_)
  refine li_const hx hb dL_wind_23 ?_
  refine li_wide (k := 1) (n := 6) (Nat.le_of_ble_eq_true rfl) (Nat.le_of_ble_eq_true rfl) ?_
  exact li_iret () hx hb hr hlocks hK hP hD hS dL_wind_24 hQ rfl (congrArg iI (rfl))
