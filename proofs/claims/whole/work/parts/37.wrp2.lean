set_option maxRecDepth 100000 in
set_option maxHeartbeats 4000000 in
theorem c_L_pass_ok {l : Launch} {D : va_G} {cI cZ cJ : ClassId} (n : Int) (L : Int) (a : Int) (gd : Int) (w : Wt) (op : Int → Int) (tn : Int → Int) (cnt : Int) (ln : Int → Int) (dr : Int → Int) (pl : Int → Int) (rp : Rt) (ov : Nat → Int64) (S0 L0 W0 W1 G0 G1 G2 B0 B1 B2 B3 P0 O0 L0t : Nat) (x : Int) (hn : 1 ≤ n ∧ n ≤ 6) (hL : 5 ≤ L ∧ L ≤ 40) (ha : 1 ≤ a ∧ a ≤ 50) (hw : WI n L a w) (htn : tnB tn) (hv : 1 ≤ x ∧ x ≤ 60) : CW l yL_pass wsL_pass 26 [.ref S0, .int (iI x), .ref O0] D (ty3 cI cZ cJ) (cLs   S0 L0 L0t ++ cLa   L0 W0 G0 B0 P0 ++ cWa cI n L a gd w W0 W1 ++ cGa cI cZ op tn G0 G1 G2 ++ cFl cI cnt ln dr pl B0 B1 B2 B3 ++ cRp  rp P0 ++ cOu cJ ov O0) (0) (cLs   S0 L0 L0t ++ cLa   L0 W0 G0 B0 P0 ++ cWa cI n L a gd ((psW n L a tn x.toNat w).2) W0 W1 ++ cGa cI cZ op tn G0 G1 G2 ++ cFl cI cnt ln dr pl B0 B1 B2 B3 ++ cRp  rp P0 ++ cOu cJ (vp_updL ov 0 (iI ((psW n L a tn x.toNat w).1)).toInt64) O0) := by
  refine ct_w (hh := [(0, 9, 12, 18)]) (plainFor_of_name (by decide)) rfl (Nat.le_of_ble_eq_true rfl) ?_
  intro p e s mI args below meth c_0 ls A hx hb hr hml hts hown hlocks htab hA hP hK hD hNW hXP hNC hS hl Q hQ
  have hown : s.vm.findClass RL = some mI.cls := hown
  have hl : lv_has ls 4 [(0, .ref S0), (1, .int (iI x)), (2, .ref O0)] := hl
  refine lv_aload_n hx hb dL_pass_0 rfl (lv_at hl 2 rfl) ?_
  refine li_const hx hb dL_pass_1 ?_
  refine lv_aload_n hx hb dL_pass_2 rfl (lv_at hl 0 rfl) ?_
  refine lv_iload_n hx hb dL_pass_3 rfl (lv_at hl 1 rfl) ?_
  refine cl_i0 (isC := [0, 1, 2, 3, 4, 5, 6, 7, 8, 9, 10, 11]) (isR := [12]) (isN := [1, 2, 3, 4, 5, 6, 7, 8, 9, 10, 11, 12, 0]) (wr := cOu cJ ov O0) (wn := cLs   S0 L0 L0t ++ cLa   L0 W0 G0 B0 P0 ++ cWa cI n L a gd ((psW n L a tn x.toNat w).2) W0 W1 ++ cGa cI cZ op tn G0 G1 G2 ++ cFl cI cnt ln dr pl B0 B1 B2 B3 ++ cRp  rp P0 ++ cOu cJ ov O0) (As := [.int (iI x)]) (rest := [.int (iI 0), .ref O0]) (r := (psW n L a tn x.toNat w).1) (ci := 5) (q0 := 0) ⟨hx, hb, hml, hown, hts⟩ (c_X5_pass_ok n L a gd w op tn cnt ln dr pl rp S0 L0 W0 W1 G0 G1 G2 B0 B1 B2 B3 P0 L0t x (by first | assumption | omega) (by first | assumption | omega) (by first | assumption | omega) (by first | assumption | omega) (by first | assumption | omega) (by first | assumption | omega)) (cwV 1 hts gL_pass_X5_pass rfl rfl rfl (by decide +kernel) ⟨Nat.le_of_ble_eq_true rfl, Nat.le_of_ble_eq_true rfl⟩) hK hNW hP hD hS hA rfl rfl rfl rfl (by decide) rfl rfl rfl rfl rfl rfl hl.1 rfl (Nat.le_of_ble_eq_true rfl) dL_pass_4 ⟨Nat.zero_le _, Nat.zero_le _⟩ (fun H locs hP hD hS => ?_)
  refine lv_i2l (v := (iI ((psW n L a tn x.toNat w).1)).toInt64) hx hb dL_pass_7 rfl ?_
  refine li_last (q0 := 12) (t0 := 2) (w2 := cLs   S0 L0 L0t ++ cLa   L0 W0 G0 B0 P0 ++ cWa cI n L a gd ((psW n L a tn x.toNat w).2) W0 W1 ++ cGa cI cZ op tn G0 G1 G2 ++ cFl cI cnt ln dr pl B0 B1 B2 B3 ++ cRp  rp P0 ++ cOu cJ (vp_updL ov 0 ((iI ((psW n L a tn x.toNat w).1)).toInt64)) O0) hx hb hK hP hD hS rfl rfl dL_pass_8 rfl (fun H locs hP hD hS => ?_)
  refine lv_goto (tgt := 15) hx hb dL_pass_9 (by decide) ?_
  refine li_const hx hb dL_pass_15 ?_
  refine li_wide (k := 1) (n := 6) (Nat.le_of_ble_eq_true rfl) (Nat.le_of_ble_eq_true rfl) ?_
  exact li_iret () hx hb hr hlocks hK hP hD hS dL_pass_16 hQ rfl (congrArg iI (rfl))

set_option maxRecDepth 100000 in
set_option maxHeartbeats 4000000 in
theorem c_L_pass_no {l : Launch} {D : va_G} {cI cZ cJ : ClassId} (hl0 : l.stackTraces = false) (n : Int) (L : Int) (a : Int) (gd : Int) (w : Wt) (op : Int → Int) (tn : Int → Int) (cnt : Int) (ln : Int → Int) (dr : Int → Int) (pl : Int → Int) (rp : Rt) (ov : Nat → Int64) (S0 L0 W0 W1 G0 G1 G2 B0 B1 B2 B3 P0 O0 L0t : Nat) (x : Int) (i_x : -2147483648 ≤ x ∧ x < 2147483648) (hv : ¬ (1 ≤ x ∧ x ≤ 60)) : CW l yL_pass wsL_pass 26 [.ref S0, .int (iI x), .ref O0] D (ty3 cI cZ cJ) (cLs   S0 L0 L0t ++ cLa   L0 W0 G0 B0 P0 ++ cWa cI n L a gd w W0 W1 ++ cGa cI cZ op tn G0 G1 G2 ++ cFl cI cnt ln dr pl B0 B1 B2 B3 ++ cRp  rp P0 ++ cOu cJ ov O0) (1) (cLs   S0 L0 L0t ++ cLa   L0 W0 G0 B0 P0 ++ cWa cI n L a gd w W0 W1 ++ cGa cI cZ op tn G0 G1 G2 ++ cFl cI cnt ln dr pl B0 B1 B2 B3 ++ cRp  rp P0 ++ cOu cJ ov O0) := by
  refine ct_w (hh := [(0, 9, 12, 18)]) (plainFor_of_name (by decide)) rfl (Nat.le_of_ble_eq_true rfl) ?_
  intro p e s mI args below meth c_0 ls A hx hb hr hml hts hown hlocks htab hA hP hK hD hNW hXP hNC hS hl Q hQ
  have hown : s.vm.findClass RL = some mI.cls := hown
  have hl : lv_has ls 4 [(0, .ref S0), (1, .int (iI x)), (2, .ref O0)] := hl
  have hck_18 := hts (.classLink RL 18 "java/lang/IllegalArgumentException") (by decide +kernel)
  refine lv_aload_n hx hb dL_pass_0 rfl (lv_at hl 2 rfl) ?_
  refine li_const hx hb dL_pass_1 ?_
  refine lv_aload_n hx hb dL_pass_2 rfl (lv_at hl 0 rfl) ?_
  refine lv_iload_n hx hb dL_pass_3 rfl (lv_at hl 1 rfl) ?_
  refine cl_t (isC := [0, 1, 2, 3, 4, 5, 6, 7, 8, 9, 10, 11]) (isR := [12]) (isN := [1, 2, 3, 4, 5, 6, 7, 8, 9, 10, 11, 12, 0]) (wr := cOu cJ ov O0) (As := [.int (iI x)]) (rest := [.int (iI 0), .ref O0]) (ci := 5) (q0 := 0) ⟨hx, hb, hml, hown, hts⟩ (c_X5_pass_no hl0 n L a gd w op tn cnt ln dr pl rp S0 L0 W0 W1 G0 G1 G2 B0 B1 B2 B3 P0 L0t x (by first | assumption | omega) (by first | assumption | omega)) (cwV 1 hts gL_pass_X5_pass rfl rfl rfl (by decide +kernel) ⟨Nat.le_of_ble_eq_true rfl, Nat.le_of_ble_eq_true rfl⟩) hK hNW hXP hP hD hS hA rfl rfl rfl rfl (by decide) rfl rfl rfl rfl rfl rfl hl.1 rfl (Nat.le_of_ble_eq_true rfl) dL_pass_4 ⟨Nat.le_of_ble_eq_true rfl, Nat.le_of_ble_eq_true rfl⟩ (fun ce q9 H locs hP hD hS h1 h2 h3 => ?_)
  refine vx_catch (own := RL) (name := "java/lang/IllegalArgumentException") hown [] ⟨0, 9, 12, 18⟩ [] (by rw [htab]; rfl) (fun z hz => nomatch hz) (by decide) (by decide) hck_18 (hXP.1.use _ (by decide +kernel)) h1 h2 h3 ?_
  show W p l e (rK 26 1 6) s mI args below meth c_0 H locs (0 + 1) (0 + 6) Q (F0 mI 12 ls [.ref q9])
  refine lv_astore_n (lv' := [(3, .ref q9), (0, .ref S0), (1, .int (iI x)), (2, .ref O0)]) hx hb dL_pass_12 rfl hl (by decide) rfl (fun ls hl => ?_)
  refine li_const hx hb dL_pass_13 ?_
  refine li_wide (k := 1) (n := 6) (Nat.le_of_ble_eq_true rfl) (Nat.le_of_ble_eq_true rfl) ?_
  exact li_iret () hx hb hr hlocks hK hP hD hS dL_pass_14 hQ rfl (congrArg iI (rfl))

set_option maxRecDepth 100000 in
set_option maxHeartbeats 4000000 in
theorem c_L_addBoat_ok {l : Launch} {D : va_G} {cI cZ cJ : ClassId} (n : Int) (L : Int) (a : Int) (gd : Int) (w : Wt) (op : Int → Int) (tn : Int → Int) (cnt : Int) (ln : Int → Int) (dr : Int → Int) (pl : Int → Int) (rp : Rt) (ov : Nat → Int64) (S0 L0 W0 W1 G0 G1 G2 B0 B1 B2 B3 P0 O0 L0t : Nat) (x : Int) (y : Int) (z : Int) (hn : 1 ≤ n ∧ n ≤ 6) (hL : 5 ≤ L ∧ L ≤ 40) (ha : 1 ≤ a ∧ a ≤ 50) (hw : WI n L a w) (hcnt : 0 ≤ cnt ∧ cnt ≤ 10) (hz9 : z = 0 ∨ z = 1) (hv1 : 5 ≤ x ∧ x ≤ 60) (hv2 : 1 ≤ y ∧ y ≤ 19) (hv3 : cnt ≤ 9 ∧ (z = 0 ∨ y ≤ w.1 / a)) : CW l yL_addBoat wsL_addBoat 26 [.ref S0, .int (iI x), .int (iI y), .int (iI z), .ref O0] D (ty3 cI cZ cJ) (cLs   S0 L0 L0t ++ cLa   L0 W0 G0 B0 P0 ++ cWa cI n L a gd w W0 W1 ++ cGa cI cZ op tn G0 G1 G2 ++ cFl cI cnt ln dr pl B0 B1 B2 B3 ++ cRp  rp P0 ++ cOu cJ ov O0) (0) (cLs   S0 L0 L0t ++ cLa   L0 W0 G0 B0 P0 ++ cWa cI n L a gd w W0 W1 ++ cGa cI cZ op tn G0 G1 G2 ++ cFl cI (cnt + 1) (upZ ln cnt x) (upZ dr cnt y) (upZ pl cnt (if z = 0 then 0 else n + 1)) B0 B1 B2 B3 ++ cRp  rp P0 ++ cOu cJ (vp_updL ov 0 (iI (cnt)).toInt64) O0) := by
  refine ct_w (hh := [(0, 12, 15, 18), (0, 12, 19, 20)]) (plainFor_of_name (by decide)) rfl (Nat.le_of_ble_eq_true rfl) ?_
  intro p e s mI args below meth c_0 ls A hx hb hr hml hts hown hlocks htab hA hP hK hD hNW hXP hNC hS hl Q hQ
  have hown : s.vm.findClass RL = some mI.cls := hown
  have hl : lv_has ls 6 [(0, .ref S0), (1, .int (iI x)), (2, .int (iI y)), (3, .int (iI z)), (4, .ref O0)] := hl
  refine lv_aload hx hb dL_addBoat_0 (lv_at hl 4 rfl) ?_
  refine li_const hx hb dL_addBoat_2 ?_
  refine lv_aload_n hx hb dL_addBoat_3 rfl (lv_at hl 0 rfl) ?_
  refine lv_iload_n hx hb dL_addBoat_4 rfl (lv_at hl 1 rfl) ?_
  refine lv_iload_n hx hb dL_addBoat_5 rfl (lv_at hl 2 rfl) ?_
  refine lv_iload_n hx hb dL_addBoat_6 rfl (lv_at hl 3 rfl) ?_
  refine cl_i0 (isC := [0, 1, 2, 3, 4, 5, 6, 7, 8, 9, 10, 11]) (isR := [12]) (isN := [1, 2, 3, 4, 5, 6, 7, 8, 9, 10, 11, 12, 0]) (wr := cOu cJ ov O0) (wn := cLs   S0 L0 L0t ++ cLa   L0 W0 G0 B0 P0 ++ cWa cI n L a gd w W0 W1 ++ cGa cI cZ op tn G0 G1 G2 ++ cFl cI (cnt + 1) (upZ ln cnt x) (upZ dr cnt y) (upZ pl cnt (if z = 0 then 0 else n + 1)) B0 B1 B2 B3 ++ cRp  rp P0 ++ cOu cJ ov O0) (As := [.int (iI x), .int (iI y), .int (iI z)]) (rest := [.int (iI 0), .ref O0]) (r := cnt) (ci := 5) (q0 := 0) ⟨hx, hb, hml, hown, hts⟩ (c_X5_addBoat_ok n L a gd w op tn cnt ln dr pl rp S0 L0 W0 W1 G0 G1 G2 B0 B1 B2 B3 P0 L0t x y z (by first | assumption | omega) (by first | assumption | omega) (by first | assumption | omega) (by first | assumption | omega) (by first | assumption | omega) (by first | assumption | omega) (by first | assumption | omega) (by first | assumption | omega) (by first | assumption | omega)) (cwV 3 hts gL_addBoat_X5_addBoat rfl rfl rfl (by decide +kernel) ⟨Nat.le_of_ble_eq_true rfl, Nat.le_of_ble_eq_true rfl⟩) hK hNW hP hD hS hA rfl rfl rfl rfl (by decide) rfl rfl rfl rfl rfl rfl hl.1 rfl (Nat.le_of_ble_eq_true rfl) dL_addBoat_7 ⟨Nat.zero_le _, Nat.zero_le _⟩ (fun H locs hP hD hS => ?_)
  refine lv_i2l (v := (iI cnt).toInt64) hx hb dL_addBoat_10 rfl ?_
  refine li_last (q0 := 12) (t0 := 2) (w2 := cLs   S0 L0 L0t ++ cLa   L0 W0 G0 B0 P0 ++ cWa cI n L a gd w W0 W1 ++ cGa cI cZ op tn G0 G1 G2 ++ cFl cI (cnt + 1) (upZ ln cnt x) (upZ dr cnt y) (upZ pl cnt (if z = 0 then 0 else n + 1)) B0 B1 B2 B3 ++ cRp  rp P0 ++ cOu cJ (vp_updL ov 0 ((iI cnt).toInt64)) O0) hx hb hK hP hD hS rfl rfl dL_addBoat_11 rfl (fun H locs hP hD hS => ?_)
  refine lv_goto (tgt := 23) hx hb dL_addBoat_12 (by decide) ?_
  refine li_const hx hb dL_addBoat_23 ?_
  refine li_wide (k := 1) (n := 6) (Nat.le_of_ble_eq_true rfl) (Nat.le_of_ble_eq_true rfl) ?_
  exact li_iret () hx hb hr hlocks hK hP hD hS dL_addBoat_24 hQ rfl (congrArg iI (rfl))

set_option maxRecDepth 100000 in
set_option maxHeartbeats 4000000 in
theorem c_L_addBoat_no1 {l : Launch} {D : va_G} {cI cZ cJ : ClassId} (hl0 : l.stackTraces = false) (n : Int) (L : Int) (a : Int) (gd : Int) (w : Wt) (op : Int → Int) (tn : Int → Int) (cnt : Int) (ln : Int → Int) (dr : Int → Int) (pl : Int → Int) (rp : Rt) (ov : Nat → Int64) (S0 L0 W0 W1 G0 G1 G2 B0 B1 B2 B3 P0 O0 L0t : Nat) (x : Int) (y : Int) (z : Int) (i_x : -2147483648 ≤ x ∧ x < 2147483648) (i_y : -2147483648 ≤ y ∧ y < 2147483648) (hv1 : ¬ ((5 ≤ x ∧ x ≤ 60) ∧ (1 ≤ y ∧ y ≤ 19))) (h01z : z = 0 ∨ z = 1) : CW l yL_addBoat wsL_addBoat 26 [.ref S0, .int (iI x), .int (iI y), .int (iI z), .ref O0] D (ty3 cI cZ cJ) (cLs   S0 L0 L0t ++ cLa   L0 W0 G0 B0 P0 ++ cWa cI n L a gd w W0 W1 ++ cGa cI cZ op tn G0 G1 G2 ++ cFl cI cnt ln dr pl B0 B1 B2 B3 ++ cRp  rp P0 ++ cOu cJ ov O0) (1) (cLs   S0 L0 L0t ++ cLa   L0 W0 G0 B0 P0 ++ cWa cI n L a gd w W0 W1 ++ cGa cI cZ op tn G0 G1 G2 ++ cFl cI cnt ln dr pl B0 B1 B2 B3 ++ cRp  rp P0 ++ cOu cJ ov O0) := by
  refine ct_w (hh := [(0, 12, 15, 18), (0, 12, 19, 20)]) (plainFor_of_name (by decide)) rfl (Nat.le_of_ble_eq_true rfl) ?_
  intro p e s mI args below meth c_0 ls A hx hb hr hml hts hown hlocks htab hA hP hK hD hNW hXP hNC hS hl Q hQ
  have hown : s.vm.findClass RL = some mI.cls := hown
  have hl : lv_has ls 6 [(0, .ref S0), (1, .int (iI x)), (2, .int (iI y)), (3, .int (iI z)), (4, .ref O0)] := hl
  have hck_18 := hts (.classLink RL 18 "java/lang/IllegalArgumentException") (by decide +kernel)
  refine lv_aload hx hb dL_addBoat_0 (lv_at hl 4 rfl) ?_
  refine li_const hx hb dL_addBoat_2 ?_
  refine lv_aload_n hx hb dL_addBoat_3 rfl (lv_at hl 0 rfl) ?_
  refine lv_iload_n hx hb dL_addBoat_4 rfl (lv_at hl 1 rfl) ?_
  refine lv_iload_n hx hb dL_addBoat_5 rfl (lv_at hl 2 rfl) ?_
  refine lv_iload_n hx hb dL_addBoat_6 rfl (lv_at hl 3 rfl) ?_
  refine cl_t (isC := [0, 1, 2, 3, 4, 5, 6, 7, 8, 9, 10, 11]) (isR := [12]) (isN := [1, 2, 3, 4, 5, 6, 7, 8, 9, 10, 11, 12, 0]) (wr := cOu cJ ov O0) (As := [.int (iI x), .int (iI y), .int (iI z)]) (rest := [.int (iI 0), .ref O0]) (ci := 5) (q0 := 0) ⟨hx, hb, hml, hown, hts⟩ (c_X5_addBoat_no1 hl0 n L a gd w op tn cnt ln dr pl rp S0 L0 W0 W1 G0 G1 G2 B0 B1 B2 B3 P0 L0t x y z (by first | assumption | omega) (by first | assumption | omega) (by first | assumption | omega)) (cwV 3 hts gL_addBoat_X5_addBoat rfl rfl rfl (by decide +kernel) ⟨Nat.le_of_ble_eq_true rfl, Nat.le_of_ble_eq_true rfl⟩) hK hNW hXP hP hD hS hA rfl rfl rfl rfl (by decide) rfl rfl rfl rfl rfl rfl hl.1 rfl (Nat.le_of_ble_eq_true rfl) dL_addBoat_7 ⟨Nat.le_of_ble_eq_true rfl, Nat.le_of_ble_eq_true rfl⟩ (fun ce q9 H locs hP hD hS h1 h2 h3 => ?_)
  refine vx_catch (own := RL) (name := "java/lang/IllegalArgumentException") hown [] ⟨0, 12, 15, 18⟩ [⟨0, 12, 19, 20⟩] (by rw [htab]; rfl) (fun z hz => nomatch hz) (by decide) (by decide) hck_18 (hXP.1.use _ (by decide +kernel)) h1 h2 h3 ?_
  show W p l e (rK 26 1 6) s mI args below meth c_0 H locs (0 + 1) (0 + 6) Q (F0 mI 15 ls [.ref q9])
  refine lv_astore (lv' := [(5, .ref q9), (0, .ref S0), (1, .int (iI x)), (2, .int (iI y)), (3, .int (iI z)), (4, .ref O0)]) hx hb dL_addBoat_15 hl (by decide) rfl (fun ls hl => ?_)
  refine li_const hx hb dL_addBoat_17 ?_
  refine li_wide (k := 1) (n := 6) (Nat.le_of_ble_eq_true rfl) (Nat.le_of_ble_eq_true rfl) ?_
  exact li_iret () hx hb hr hlocks hK hP hD hS dL_addBoat_18 hQ rfl (congrArg iI (rfl))

set_option maxRecDepth 100000 in
set_option maxHeartbeats 4000000 in
theorem c_L_addBoat_no2 {l : Launch} {D : va_G} {cI cZ cJ : ClassId} (hl0 : l.stackTraces = false) (n : Int) (L : Int) (a : Int) (gd : Int) (w : Wt) (op : Int → Int) (tn : Int → Int) (cnt : Int) (ln : Int → Int) (dr : Int → Int) (pl : Int → Int) (rp : Rt) (ov : Nat → Int64) (S0 L0 W0 W1 G0 G1 G2 B0 B1 B2 B3 P0 O0 L0t : Nat) (x : Int) (y : Int) (z : Int) (hn : 1 ≤ n ∧ n ≤ 6) (hL : 5 ≤ L ∧ L ≤ 40) (ha : 1 ≤ a ∧ a ≤ 50) (hw : WI n L a w) (hcnt : 0 ≤ cnt ∧ cnt ≤ 10) (hz9 : z = 0 ∨ z = 1) (hv1 : 5 ≤ x ∧ x ≤ 60) (hv2 : 1 ≤ y ∧ y ≤ 19) (hv3 : ¬ (cnt ≤ 9 ∧ (z = 0 ∨ y ≤ w.1 / a))) : CW l yL_addBoat wsL_addBoat 26 [.ref S0, .int (iI x), .int (iI y), .int (iI z), .ref O0] D (ty3 cI cZ cJ) (cLs   S0 L0 L0t ++ cLa   L0 W0 G0 B0 P0 ++ cWa cI n L a gd w W0 W1 ++ cGa cI cZ op tn G0 G1 G2 ++ cFl cI cnt ln dr pl B0 B1 B2 B3 ++ cRp  rp P0 ++ cOu cJ ov O0) (2) (cLs   S0 L0 L0t ++ cLa   L0 W0 G0 B0 P0 ++ cWa cI n L a gd w W0 W1 ++ cGa cI cZ op tn G0 G1 G2 ++ cFl cI cnt ln dr pl B0 B1 B2 B3 ++ cRp  rp P0 ++ cOu cJ ov O0) := by
  refine ct_w (hh := [(0, 12, 15, 18), (0, 12, 19, 20)]) (plainFor_of_name (by decide)) rfl (Nat.le_of_ble_eq_true rfl) ?_
  intro p e s mI args below meth c_0 ls A hx hb hr hml hts hown hlocks htab hA hP hK hD hNW hXP hNC hS hl Q hQ
  have hown : s.vm.findClass RL = some mI.cls := hown
  have hl : lv_has ls 6 [(0, .ref S0), (1, .int (iI x)), (2, .int (iI y)), (3, .int (iI z)), (4, .ref O0)] := hl
  have hck_18 := hts (.classLink RL 18 "java/lang/IllegalArgumentException") (by decide +kernel)
  have hck_20 := hts (.classLink RL 20 "java/lang/IllegalStateException") (by decide +kernel)
  refine lv_aload hx hb dL_addBoat_0 (lv_at hl 4 rfl) ?_
  refine li_const hx hb dL_addBoat_2 ?_
  refine lv_aload_n hx hb dL_addBoat_3 rfl (lv_at hl 0 rfl) ?_
  refine lv_iload_n hx hb dL_addBoat_4 rfl (lv_at hl 1 rfl) ?_
  refine lv_iload_n hx hb dL_addBoat_5 rfl (lv_at hl 2 rfl) ?_
  refine lv_iload_n hx hb dL_addBoat_6 rfl (lv_at hl 3 rfl) ?_
  refine cl_t (isC := [0, 1, 2, 3, 4, 5, 6, 7, 8, 9, 10, 11]) (isR := [12]) (isN := [1, 2, 3, 4, 5, 6, 7, 8, 9, 10, 11, 12, 0]) (wr := cOu cJ ov O0) (As := [.int (iI x), .int (iI y), .int (iI z)]) (rest := [.int (iI 0), .ref O0]) (ci := 5) (q0 := 0) ⟨hx, hb, hml, hown, hts⟩ (c_X5_addBoat_no2 hl0 n L a gd w op tn cnt ln dr pl rp S0 L0 W0 W1 G0 G1 G2 B0 B1 B2 B3 P0 L0t x y z (by first | assumption | omega) (by first | assumption | omega) (by first | assumption | omega) (by first | assumption | omega) (by first | assumption | omega) (by first | assumption | omega) (by first | assumption | omega) (by first | assumption | omega) (by first | assumption | omega)) (cwV 3 hts gL_addBoat_X5_addBoat rfl rfl rfl (by decide +kernel) ⟨Nat.le_of_ble_eq_true rfl, Nat.le_of_ble_eq_true rfl⟩) hK hNW hXP hP hD hS hA rfl rfl rfl rfl (by decide) rfl rfl rfl rfl rfl rfl hl.1 rfl (Nat.le_of_ble_eq_true rfl) dL_addBoat_7 ⟨Nat.le_of_ble_eq_true rfl, Nat.le_of_ble_eq_true rfl⟩ (fun ce q9 H locs hP hD hS h1 h2 h3 => ?_)
  refine vx_catch (own := RL) (name := "java/lang/IllegalStateException") hown [⟨0, 12, 15, 18⟩] ⟨0, 12, 19, 20⟩ [] (by rw [htab]; rfl) (fun z hz => by simp only [List.mem_cons, List.not_mem_nil, or_false] at hz; subst hz; exact Or.inr ⟨by decide, "java/lang/IllegalArgumentException", hck_18, hNC.2.2⟩) (by decide) (by decide) hck_20 (hXP.1.use _ (by decide +kernel)) h1 h2 h3 ?_
  show W p l e (rK 26 1 6) s mI args below meth c_0 H locs (0 + 1) (0 + 6) Q (F0 mI 19 ls [.ref q9])
  refine lv_astore (lv' := [(5, .ref q9), (0, .ref S0), (1, .int (iI x)), (2, .int (iI y)), (3, .int (iI z)), (4, .ref O0)]) hx hb dL_addBoat_19 hl (by decide) rfl (fun ls hl => ?_)
  refine li_const hx hb dL_addBoat_21 ?_
  refine li_wide (k := 1) (n := 6) (Nat.le_of_ble_eq_true rfl) (Nat.le_of_ble_eq_true rfl) ?_
  exact li_iret () hx hb hr hlocks hK hP hD hS dL_addBoat_22 hQ rfl (congrArg iI (rfl))

set_option maxRecDepth 100000 in
set_option maxHeartbeats 4000000 in
theorem c_L_placeOf_ok {l : Launch} {D : va_G} {cI cZ cJ : ClassId} (n : Int) (L : Int) (a : Int) (gd : Int) (w : Wt) (op : Int → Int) (tn : Int → Int) (cnt : Int) (ln : Int → Int) (dr : Int → Int) (pl : Int → Int) (rp : Rt) (ov : Nat → Int64) (S0 L0 W0 W1 G0 G1 G2 B0 B1 B2 B3 P0 O0 L0t : Nat) (x : Int) (hcnt : 0 ≤ cnt ∧ cnt ≤ 10) (hv : 0 ≤ x ∧ x ≤ cnt - 1) : CW l yL_placeOf wsL_placeOf 26 [.ref S0, .int (iI x), .ref O0] D (ty3 cI cZ cJ) (cLs   S0 L0 L0t ++ cLa   L0 W0 G0 B0 P0 ++ cWa cI n L a gd w W0 W1 ++ cGa cI cZ op tn G0 G1 G2 ++ cFl cI cnt ln dr pl B0 B1 B2 B3 ++ cRp  rp P0 ++ cOu cJ ov O0) (0) (cLs   S0 L0 L0t ++ cLa   L0 W0 G0 B0 P0 ++ cWa cI n L a gd w W0 W1 ++ cGa cI cZ op tn G0 G1 G2 ++ cFl cI cnt ln dr pl B0 B1 B2 B3 ++ cRp  rp P0 ++ cOu cJ (vp_updL ov 0 (iI (pl x)).toInt64) O0) := by
  refine ct_w (hh := [(0, 9, 12, 13)]) (plainFor_of_name (by decide)) rfl (Nat.le_of_ble_eq_true rfl) ?_
  intro p e s mI args below meth c_0 ls A hx hb hr hml hts hown hlocks htab hA hP hK hD hNW hXP hNC hS hl Q hQ
  have hown : s.vm.findClass RL = some mI.cls := hown
  have hl : lv_has ls 4 [(0, .ref S0), (1, .int (iI x)), (2, .ref O0)] := hl
  refine lv_aload_n hx hb dL_placeOf_0 rfl (lv_at hl 2 rfl) ?_
  refine li_const hx hb dL_placeOf_1 ?_
  refine lv_aload_n hx hb dL_placeOf_2 rfl (lv_at hl 0 rfl) ?_
  refine lv_iload_n hx hb dL_placeOf_3 rfl (lv_at hl 1 rfl) ?_
  refine cl_i0 (isC := [0, 1, 2, 3, 4, 5, 6, 7, 8, 9, 10, 11]) (isR := [12]) (isN := [1, 2, 3, 4, 5, 6, 7, 8, 9, 10, 11, 12, 0]) (wr := cOu cJ ov O0) (wn := cLs   S0 L0 L0t ++ cLa   L0 W0 G0 B0 P0 ++ cWa cI n L a gd w W0 W1 ++ cGa cI cZ op tn G0 G1 G2 ++ cFl cI cnt ln dr pl B0 B1 B2 B3 ++ cRp  rp P0 ++ cOu cJ ov O0) (As := [.int (iI x)]) (rest := [.int (iI 0), .ref O0]) (r := pl x) (ci := 5) (q0 := 0) ⟨hx, hb, hml, hown, hts⟩ (c_X5_placeOf_ok n L a gd w op tn cnt ln dr pl rp S0 L0 W0 W1 G0 G1 G2 B0 B1 B2 B3 P0 L0t x (by first | assumption | omega) (by first | assumption | omega)) (cwV 1 hts gL_placeOf_X5_placeOf rfl rfl rfl (by decide +kernel) ⟨Nat.le_of_ble_eq_true rfl, Nat.le_of_ble_eq_true rfl⟩) hK hNW hP hD hS hA rfl rfl rfl rfl (by decide) rfl rfl rfl rfl rfl rfl hl.1 rfl (Nat.le_of_ble_eq_true rfl) dL_placeOf_4 ⟨Nat.zero_le _, Nat.zero_le _⟩ (fun H locs hP hD hS => ?_)
  refine lv_i2l (v := (iI (pl x)).toInt64) hx hb dL_placeOf_7 rfl ?_
  refine li_last (q0 := 12) (t0 := 2) (w2 := cLs   S0 L0 L0t ++ cLa   L0 W0 G0 B0 P0 ++ cWa cI n L a gd w W0 W1 ++ cGa cI cZ op tn G0 G1 G2 ++ cFl cI cnt ln dr pl B0 B1 B2 B3 ++ cRp  rp P0 ++ cOu cJ (vp_updL ov 0 ((iI (pl x)).toInt64)) O0) hx hb hK hP hD hS rfl rfl dL_placeOf_8 rfl (fun H locs hP hD hS => ?_)
  refine lv_goto (tgt := 15) hx hb dL_placeOf_9 (by decide) ?_
  refine li_const hx hb dL_placeOf_15 ?_
  refine li_wide (k := 1) (n := 6) (Nat.le_of_ble_eq_true rfl) (Nat.le_of_ble_eq_true rfl) ?_
  exact li_iret () hx hb hr hlocks hK hP hD hS dL_placeOf_16 hQ rfl (congrArg iI (rfl))

set_option maxRecDepth 100000 in
set_option maxHeartbeats 4000000 in
theorem c_L_placeOf_no {l : Launch} {D : va_G} {cI cZ cJ : ClassId} (hl0 : l.stackTraces = false) (n : Int) (L : Int) (a : Int) (gd : Int) (w : Wt) (op : Int → Int) (tn : Int → Int) (cnt : Int) (ln : Int → Int) (dr : Int → Int) (pl : Int → Int) (rp : Rt) (ov : Nat → Int64) (S0 L0 W0 W1 G0 G1 G2 B0 B1 B2 B3 P0 O0 L0t : Nat) (x : Int) (hcnt : 0 ≤ cnt ∧ cnt ≤ 10) (i_x : -2147483648 ≤ x ∧ x < 2147483648) (hv : ¬ (0 ≤ x ∧ x ≤ cnt - 1)) : CW l yL_placeOf wsL_placeOf 26 [.ref S0, .int (iI x), .ref O0] D (ty3 cI cZ cJ) (cLs   S0 L0 L0t ++ cLa   L0 W0 G0 B0 P0 ++ cWa cI n L a gd w W0 W1 ++ cGa cI cZ op tn G0 G1 G2 ++ cFl cI cnt ln dr pl B0 B1 B2 B3 ++ cRp  rp P0 ++ cOu cJ ov O0) (1) (cLs   S0 L0 L0t ++ cLa   L0 W0 G0 B0 P0 ++ cWa cI n L a gd w W0 W1 ++ cGa cI cZ op tn G0 G1 G2 ++ cFl cI cnt ln dr pl B0 B1 B2 B3 ++ cRp  rp P0 ++ cOu cJ ov O0) := by
  refine ct_w (hh := [(0, 9, 12, 13)]) (plainFor_of_name (by decide)) rfl (Nat.le_of_ble_eq_true rfl) ?_
  intro p e s mI args below meth c_0 ls A hx hb hr hml hts hown hlocks htab hA hP hK hD hNW hXP hNC hS hl Q hQ
  have hown : s.vm.findClass RL = some mI.cls := hown
  have hl : lv_has ls 4 [(0, .ref S0), (1, .int (iI x)), (2, .ref O0)] := hl
  have hck_13 := hts (.classLink RL 13 "java/lang/IndexOutOfBoundsException") (by decide +kernel)
  refine lv_aload_n hx hb dL_placeOf_0 rfl (lv_at hl 2 rfl) ?_
  refine li_const hx hb dL_placeOf_1 ?_
  refine lv_aload_n hx hb dL_placeOf_2 rfl (lv_at hl 0 rfl) ?_
  refine lv_iload_n hx hb dL_placeOf_3 rfl (lv_at hl 1 rfl) ?_
  refine cl_t (isC := [0, 1, 2, 3, 4, 5, 6, 7, 8, 9, 10, 11]) (isR := [12]) (isN := [1, 2, 3, 4, 5, 6, 7, 8, 9, 10, 11, 12, 0]) (wr := cOu cJ ov O0) (As := [.int (iI x)]) (rest := [.int (iI 0), .ref O0]) (ci := 5) (q0 := 0) ⟨hx, hb, hml, hown, hts⟩ (c_X5_placeOf_no hl0 n L a gd w op tn cnt ln dr pl rp S0 L0 W0 W1 G0 G1 G2 B0 B1 B2 B3 P0 L0t x (by first | assumption | omega) (by first | assumption | omega) (by first | assumption | omega)) (cwV 1 hts gL_placeOf_X5_placeOf rfl rfl rfl (by decide +kernel) ⟨Nat.le_of_ble_eq_true rfl, Nat.le_of_ble_eq_true rfl⟩) hK hNW hXP hP hD hS hA rfl rfl rfl rfl (by decide) rfl rfl rfl rfl rfl rfl hl.1 rfl (Nat.le_of_ble_eq_true rfl) dL_placeOf_4 ⟨Nat.le_of_ble_eq_true rfl, Nat.le_of_ble_eq_true rfl⟩ (fun ce q9 H locs hP hD hS h1 h2 h3 => ?_)
  refine vx_catch (own := RL) (name := "java/lang/IndexOutOfBoundsException") hown [] ⟨0, 9, 12, 13⟩ [] (by rw [htab]; rfl) (fun z hz => nomatch hz) (by decide) (by decide) hck_13 (hXP.1.use _ (by decide +kernel)) h1 h2 h3 ?_
  show W p l e (rK 26 1 6) s mI args below meth c_0 H locs (0 + 1) (0 + 6) Q (F0 mI 12 ls [.ref q9])
  refine lv_astore_n (lv' := [(3, .ref q9), (0, .ref S0), (1, .int (iI x)), (2, .ref O0)]) hx hb dL_placeOf_12 rfl hl (by decide) rfl (fun ls hl => ?_)
  refine li_const hx hb dL_placeOf_13 ?_
  refine li_wide (k := 1) (n := 6) (Nat.le_of_ble_eq_true rfl) (Nat.le_of_ble_eq_true rfl) ?_
  exact li_iret () hx hb hr hlocks hK hP hD hS dL_placeOf_14 hQ rfl (congrArg iI (rfl))

set_option maxRecDepth 100000 in
set_option maxHeartbeats 4000000 in
theorem c_L_boatsAt_ok {l : Launch} {D : va_G} {cI cZ cJ : ClassId} (n : Int) (L : Int) (a : Int) (gd : Int) (w : Wt) (op : Int → Int) (tn : Int → Int) (cnt : Int) (ln : Int → Int) (dr : Int → Int) (pl : Int → Int) (rp : Rt) (ov : Nat → Int64) (S0 L0 W0 W1 G0 G1 G2 B0 B1 B2 B3 P0 O0 L0t : Nat) (x : Int) (hn : 1 ≤ n ∧ n ≤ 6) (hL : 5 ≤ L ∧ L ≤ 40) (ha : 1 ≤ a ∧ a ≤ 50) (hcnt : 0 ≤ cnt ∧ cnt ≤ 10) (hpi : plI n pl) (hv : 0 ≤ x ∧ x ≤ n + 1) : CW l yL_boatsAt wsL_boatsAt 26 [.ref S0, .int (iI x), .ref O0] D (ty3 cI cZ cJ) (cLs   S0 L0 L0t ++ cLa   L0 W0 G0 B0 P0 ++ cWa cI n L a gd w W0 W1 ++ cGa cI cZ op tn G0 G1 G2 ++ cFl cI cnt ln dr pl B0 B1 B2 B3 ++ cRp  rp P0 ++ cOu cJ ov O0) (0) (cLs   S0 L0 L0t ++ cLa   L0 W0 G0 B0 P0 ++ cWa cI n L a gd w W0 W1 ++ cGa cI cZ op tn G0 G1 G2 ++ cFl cI cnt ln dr pl B0 B1 B2 B3 ++ cRp  rp P0 ++ cOu cJ (vp_updL ov 0 (iI (sumZ (cntP pl x) cnt.toNat)).toInt64) O0) := by
  refine ct_w (hh := [(0, 9, 12, 13)]) (plainFor_of_name (by decide)) rfl (Nat.le_of_ble_eq_true rfl) ?_
  intro p e s mI args below meth c_0 ls A hx hb hr hml hts hown hlocks htab hA hP hK hD hNW hXP hNC hS hl Q hQ
  have hown : s.vm.findClass RL = some mI.cls := hown
  have hl : lv_has ls 4 [(0, .ref S0), (1, .int (iI x)), (2, .ref O0)] := hl
  refine lv_aload_n hx hb dL_boatsAt_0 rfl (lv_at hl 2 rfl) ?_
  refine li_const hx hb dL_boatsAt_1 ?_
  refine lv_aload_n hx hb dL_boatsAt_2 rfl (lv_at hl 0 rfl) ?_
  refine lv_iload_n hx hb dL_boatsAt_3 rfl (lv_at hl 1 rfl) ?_
  refine cl_i0 (isC := [0, 1, 2, 3, 4, 5, 6, 7, 8, 9, 10, 11]) (isR := [12]) (isN := [1, 2, 3, 4, 5, 6, 7, 8, 9, 10, 11, 12, 0]) (wr := cOu cJ ov O0) (wn := cLs   S0 L0 L0t ++ cLa   L0 W0 G0 B0 P0 ++ cWa cI n L a gd w W0 W1 ++ cGa cI cZ op tn G0 G1 G2 ++ cFl cI cnt ln dr pl B0 B1 B2 B3 ++ cRp  rp P0 ++ cOu cJ ov O0) (As := [.int (iI x)]) (rest := [.int (iI 0), .ref O0]) (r := sumZ (cntP pl x) cnt.toNat) (ci := 5) (q0 := 0) ⟨hx, hb, hml, hown, hts⟩ (c_X5_boatsAt_ok n L a gd w op tn cnt ln dr pl rp S0 L0 W0 W1 G0 G1 G2 B0 B1 B2 B3 P0 L0t x (by first | assumption | omega) (by first | assumption | omega) (by first | assumption | omega) (by first | assumption | omega) (by first | assumption | omega) (by first | assumption | omega)) (cwV 1 hts gL_boatsAt_X5_boatsAt rfl rfl rfl (by decide +kernel) ⟨Nat.le_of_ble_eq_true rfl, Nat.le_of_ble_eq_true rfl⟩) hK hNW hP hD hS hA rfl rfl rfl rfl (by decide) rfl rfl rfl rfl rfl rfl hl.1 rfl (Nat.le_of_ble_eq_true rfl) dL_boatsAt_4 ⟨Nat.zero_le _, Nat.zero_le _⟩ (fun H locs hP hD hS => ?_)
  refine lv_i2l (v := (iI (sumZ (cntP pl x) cnt.toNat)).toInt64) hx hb dL_boatsAt_7 rfl ?_
  refine li_last (q0 := 12) (t0 := 2) (w2 := cLs   S0 L0 L0t ++ cLa   L0 W0 G0 B0 P0 ++ cWa cI n L a gd w W0 W1 ++ cGa cI cZ op tn G0 G1 G2 ++ cFl cI cnt ln dr pl B0 B1 B2 B3 ++ cRp  rp P0 ++ cOu cJ (vp_updL ov 0 ((iI (sumZ (cntP pl x) cnt.toNat)).toInt64)) O0) hx hb hK hP hD hS rfl rfl dL_boatsAt_8 rfl (fun H locs hP hD hS => ?_)
  refine lv_goto (tgt := 15) hx hb dL_boatsAt_9 (by decide) ?_
  refine li_const hx hb dL_boatsAt_15 ?_
  refine li_wide (k := 1) (n := 6) (Nat.le_of_ble_eq_true rfl) (Nat.le_of_ble_eq_true rfl) ?_
  exact li_iret () hx hb hr hlocks hK hP hD hS dL_boatsAt_16 hQ rfl (congrArg iI (rfl))

set_option maxRecDepth 100000 in
set_option maxHeartbeats 4000000 in
theorem c_L_boatsAt_no {l : Launch} {D : va_G} {cI cZ cJ : ClassId} (hl0 : l.stackTraces = false) (n : Int) (L : Int) (a : Int) (gd : Int) (w : Wt) (op : Int → Int) (tn : Int → Int) (cnt : Int) (ln : Int → Int) (dr : Int → Int) (pl : Int → Int) (rp : Rt) (ov : Nat → Int64) (S0 L0 W0 W1 G0 G1 G2 B0 B1 B2 B3 P0 O0 L0t : Nat) (x : Int) (hn : 1 ≤ n ∧ n ≤ 6) (hL : 5 ≤ L ∧ L ≤ 40) (ha : 1 ≤ a ∧ a ≤ 50) (i_x : -2147483648 ≤ x ∧ x < 2147483648) (hv : ¬ (0 ≤ x ∧ x ≤ n + 1)) : CW l yL_boatsAt wsL_boatsAt 26 [.ref S0, .int (iI x), .ref O0] D (ty3 cI cZ cJ) (cLs   S0 L0 L0t ++ cLa   L0 W0 G0 B0 P0 ++ cWa cI n L a gd w W0 W1 ++ cGa cI cZ op tn G0 G1 G2 ++ cFl cI cnt ln dr pl B0 B1 B2 B3 ++ cRp  rp P0 ++ cOu cJ ov O0) (1) (cLs   S0 L0 L0t ++ cLa   L0 W0 G0 B0 P0 ++ cWa cI n L a gd w W0 W1 ++ cGa cI cZ op tn G0 G1 G2 ++ cFl cI cnt ln dr pl B0 B1 B2 B3 ++ cRp  rp P0 ++ cOu cJ ov O0) := by
  refine ct_w (hh := [(0, 9, 12, 13)]) (plainFor_of_name (by decide)) rfl (Nat.le_of_ble_eq_true rfl) ?_
  intro p e s mI args below meth c_0 ls A hx hb hr hml hts hown hlocks htab hA hP hK hD hNW hXP hNC hS hl Q hQ
  have hown : s.vm.findClass RL = some mI.cls := hown
  have hl : lv_has ls 4 [(0, .ref S0), (1, .int (iI x)), (2, .ref O0)] := hl
  have hck_13 := hts (.classLink RL 13 "java/lang/IndexOutOfBoundsException") (by decide +kernel)
  refine lv_aload_n hx hb dL_boatsAt_0 rfl (lv_at hl 2 rfl) ?_
  refine li_const hx hb dL_boatsAt_1 ?_
  refine lv_aload_n hx hb dL_boatsAt_2 rfl (lv_at hl 0 rfl) ?_
  refine lv_iload_n hx hb dL_boatsAt_3 rfl (lv_at hl 1 rfl) ?_
  refine cl_t (isC := [0, 1, 2, 3, 4, 5, 6, 7, 8, 9, 10, 11]) (isR := [12]) (isN := [1, 2, 3, 4, 5, 6, 7, 8, 9, 10, 11, 12, 0]) (wr := cOu cJ ov O0) (As := [.int (iI x)]) (rest := [.int (iI 0), .ref O0]) (ci := 5) (q0 := 0) ⟨hx, hb, hml, hown, hts⟩ (c_X5_boatsAt_no hl0 n L a gd w op tn cnt ln dr pl rp S0 L0 W0 W1 G0 G1 G2 B0 B1 B2 B3 P0 L0t x (by first | assumption | omega) (by first | assumption | omega) (by first | assumption | omega) (by first | assumption | omega) (by first | assumption | omega)) (cwV 1 hts gL_boatsAt_X5_boatsAt rfl rfl rfl (by decide +kernel) ⟨Nat.le_of_ble_eq_true rfl, Nat.le_of_ble_eq_true rfl⟩) hK hNW hXP hP hD hS hA rfl rfl rfl rfl (by decide) rfl rfl rfl rfl rfl rfl hl.1 rfl (Nat.le_of_ble_eq_true rfl) dL_boatsAt_4 ⟨Nat.le_of_ble_eq_true rfl, Nat.le_of_ble_eq_true rfl⟩ (fun ce q9 H locs hP hD hS h1 h2 h3 => ?_)
  refine vx_catch (own := RL) (name := "java/lang/IndexOutOfBoundsException") hown [] ⟨0, 9, 12, 13⟩ [] (by rw [htab]; rfl) (fun z hz => nomatch hz) (by decide) (by decide) hck_13 (hXP.1.use _ (by decide +kernel)) h1 h2 h3 ?_
  show W p l e (rK 26 1 6) s mI args below meth c_0 H locs (0 + 1) (0 + 6) Q (F0 mI 12 ls [.ref q9])
  refine lv_astore_n (lv' := [(3, .ref q9), (0, .ref S0), (1, .int (iI x)), (2, .ref O0)]) hx hb dL_boatsAt_12 rfl hl (by decide) rfl (fun ls hl => ?_)
  refine li_const hx hb dL_boatsAt_13 ?_
  refine li_wide (k := 1) (n := 6) (Nat.le_of_ble_eq_true rfl) (Nat.le_of_ble_eq_true rfl) ?_
  exact li_iret () hx hb hr hlocks hK hP hD hS dL_boatsAt_14 hQ rfl (congrArg iI (rfl))

set_option maxRecDepth 100000 in
set_option maxHeartbeats 4000000 in
theorem c_L_freeLength_ok {l : Launch} {D : va_G} {cI cZ cJ : ClassId} (n : Int) (L : Int) (a : Int) (gd : Int) (w : Wt) (op : Int → Int) (tn : Int → Int) (cnt : Int) (ln : Int → Int) (dr : Int → Int) (pl : Int → Int) (rp : Rt) (ov : Nat → Int64) (S0 L0 W0 W1 G0 G1 G2 B0 B1 B2 B3 P0 O0 L0t : Nat) (x : Int) (hn : 1 ≤ n ∧ n ≤ 6) (hL : 5 ≤ L ∧ L ≤ 40) (ha : 1 ≤ a ∧ a ≤ 50) (hcnt : 0 ≤ cnt ∧ cnt ≤ 10) (hpi : plI n pl) (hln : lnB ln) (hdr : lnB dr) (hv : 0 ≤ x ∧ x ≤ n - 1) : CW l yL_freeLength wsL_freeLength 26 [.ref S0, .int (iI x), .ref O0] D (ty3 cI cZ cJ) (cLs   S0 L0 L0t ++ cLa   L0 W0 G0 B0 P0 ++ cWa cI n L a gd w W0 W1 ++ cGa cI cZ op tn G0 G1 G2 ++ cFl cI cnt ln dr pl B0 B1 B2 B3 ++ cRp  rp P0 ++ cOu cJ ov O0) (0) (cLs   S0 L0 L0t ++ cLa   L0 W0 G0 B0 P0 ++ cWa cI n L a gd w W0 W1 ++ cGa cI cZ op tn G0 G1 G2 ++ cFl cI cnt ln dr pl B0 B1 B2 B3 ++ cRp  rp P0 ++ cOu cJ (vp_updL ov 0 (iI (60 - sumZ (lenP pl ln (x + 1)) cnt.toNat)).toInt64) O0) := by
  refine ct_w (hh := [(0, 9, 12, 13)]) (plainFor_of_name (by decide)) rfl (Nat.le_of_ble_eq_true rfl) ?_
  intro p e s mI args below meth c_0 ls A hx hb hr hml hts hown hlocks htab hA hP hK hD hNW hXP hNC hS hl Q hQ
  have hown : s.vm.findClass RL = some mI.cls := hown
  have hl : lv_has ls 4 [(0, .ref S0), (1, .int (iI x)), (2, .ref O0)] := hl
  refine lv_aload_n hx hb dL_freeLength_0 rfl (lv_at hl 2 rfl) ?_
  refine li_const hx hb dL_freeLength_1 ?_
  refine lv_aload_n hx hb dL_freeLength_2 rfl (lv_at hl 0 rfl) ?_
  refine lv_iload_n hx hb dL_freeLength_3 rfl (lv_at hl 1 rfl) ?_
  refine cl_i0 (isC := [0, 1, 2, 3, 4, 5, 6, 7, 8, 9, 10, 11]) (isR := [12]) (isN := [1, 2, 3, 4, 5, 6, 7, 8, 9, 10, 11, 12, 0]) (wr := cOu cJ ov O0) (wn := cLs   S0 L0 L0t ++ cLa   L0 W0 G0 B0 P0 ++ cWa cI n L a gd w W0 W1 ++ cGa cI cZ op tn G0 G1 G2 ++ cFl cI cnt ln dr pl B0 B1 B2 B3 ++ cRp  rp P0 ++ cOu cJ ov O0) (As := [.int (iI x)]) (rest := [.int (iI 0), .ref O0]) (r := 60 - sumZ (lenP pl ln (x + 1)) cnt.toNat) (ci := 5) (q0 := 0) ⟨hx, hb, hml, hown, hts⟩ (c_X5_freeLength_ok n L a gd w op tn cnt ln dr pl rp S0 L0 W0 W1 G0 G1 G2 B0 B1 B2 B3 P0 L0t x (by first | assumption | omega) (by first | assumption | omega) (by first | assumption | omega) (by first | assumption | omega) (by first | assumption | omega) (by first | assumption | omega) (by first | assumption | omega) (by first | assumption | omega)) (cwV 1 hts gL_freeLength_X5_freeLength rfl rfl rfl (by decide +kernel) ⟨Nat.le_of_ble_eq_true rfl, Nat.le_of_ble_eq_true rfl⟩) hK hNW hP hD hS hA rfl rfl rfl rfl (by decide) rfl rfl rfl rfl rfl rfl hl.1 rfl (Nat.le_of_ble_eq_true rfl) dL_freeLength_4 ⟨Nat.zero_le _, Nat.zero_le _⟩ (fun H locs hP hD hS => ?_)
  refine lv_i2l (v := (iI (60 - sumZ (lenP pl ln (x + 1)) cnt.toNat)).toInt64) hx hb dL_freeLength_7 rfl ?_
  refine li_last (q0 := 12) (t0 := 2) (w2 := cLs   S0 L0 L0t ++ cLa   L0 W0 G0 B0 P0 ++ cWa cI n L a gd w W0 W1 ++ cGa cI cZ op tn G0 G1 G2 ++ cFl cI cnt ln dr pl B0 B1 B2 B3 ++ cRp  rp P0 ++ cOu cJ (vp_updL ov 0 ((iI (60 - sumZ (lenP pl ln (x + 1)) cnt.toNat)).toInt64)) O0) hx hb hK hP hD hS rfl rfl dL_freeLength_8 rfl (fun H locs hP hD hS => ?_)
  refine lv_goto (tgt := 15) hx hb dL_freeLength_9 (by decide) ?_
  refine li_const hx hb dL_freeLength_15 ?_
  refine li_wide (k := 1) (n := 6) (Nat.le_of_ble_eq_true rfl) (Nat.le_of_ble_eq_true rfl) ?_
  exact li_iret () hx hb hr hlocks hK hP hD hS dL_freeLength_16 hQ rfl (congrArg iI (rfl))

set_option maxRecDepth 100000 in
set_option maxHeartbeats 4000000 in
theorem c_L_freeLength_no {l : Launch} {D : va_G} {cI cZ cJ : ClassId} (hl0 : l.stackTraces = false) (n : Int) (L : Int) (a : Int) (gd : Int) (w : Wt) (op : Int → Int) (tn : Int → Int) (cnt : Int) (ln : Int → Int) (dr : Int → Int) (pl : Int → Int) (rp : Rt) (ov : Nat → Int64) (S0 L0 W0 W1 G0 G1 G2 B0 B1 B2 B3 P0 O0 L0t : Nat) (x : Int) (hn : 1 ≤ n ∧ n ≤ 6) (hL : 5 ≤ L ∧ L ≤ 40) (ha : 1 ≤ a ∧ a ≤ 50) (i_x : -2147483648 ≤ x ∧ x < 2147483648) (hv : ¬ (0 ≤ x ∧ x ≤ n - 1)) : CW l yL_freeLength wsL_freeLength 26 [.ref S0, .int (iI x), .ref O0] D (ty3 cI cZ cJ) (cLs   S0 L0 L0t ++ cLa   L0 W0 G0 B0 P0 ++ cWa cI n L a gd w W0 W1 ++ cGa cI cZ op tn G0 G1 G2 ++ cFl cI cnt ln dr pl B0 B1 B2 B3 ++ cRp  rp P0 ++ cOu cJ ov O0) (1) (cLs   S0 L0 L0t ++ cLa   L0 W0 G0 B0 P0 ++ cWa cI n L a gd w W0 W1 ++ cGa cI cZ op tn G0 G1 G2 ++ cFl cI cnt ln dr pl B0 B1 B2 B3 ++ cRp  rp P0 ++ cOu cJ ov O0) := by
  refine ct_w (hh := [(0, 9, 12, 13)]) (plainFor_of_name (by decide)) rfl (Nat.le_of_ble_eq_true rfl) ?_
  intro p e s mI args below meth c_0 ls A hx hb hr hml hts hown hlocks htab hA hP hK hD hNW hXP hNC hS hl Q hQ
  have hown : s.vm.findClass RL = some mI.cls := hown
  have hl : lv_has ls 4 [(0, .ref S0), (1, .int (iI x)), (2, .ref O0)] := hl
  have hck_13 := hts (.classLink RL 13 "java/lang/IndexOutOfBoundsException") (by decide +kernel)
  refine lv_aload_n hx hb dL_freeLength_0 rfl (lv_at hl 2 rfl) ?_
  refine li_const hx hb dL_freeLength_1 ?_
  refine lv_aload_n hx hb dL_freeLength_2 rfl (lv_at hl 0 rfl) ?_
  refine lv_iload_n hx hb dL_freeLength_3 rfl (lv_at hl 1 rfl) ?_
  refine cl_t (isC := [0, 1, 2, 3, 4, 5, 6, 7, 8, 9, 10, 11]) (isR := [12]) (isN := [1, 2, 3, 4, 5, 6, 7, 8, 9, 10, 11, 12, 0]) (wr := cOu cJ ov O0) (As := [.int (iI x)]) (rest := [.int (iI 0), .ref O0]) (ci := 5) (q0 := 0) ⟨hx, hb, hml, hown, hts⟩ (c_X5_freeLength_no hl0 n L a gd w op tn cnt ln dr pl rp S0 L0 W0 W1 G0 G1 G2 B0 B1 B2 B3 P0 L0t x (by first | assumption | omega) (by first | assumption | omega) (by first | assumption | omega) (by first | assumption | omega) (by first | assumption | omega)) (cwV 1 hts gL_freeLength_X5_freeLength rfl rfl rfl (by decide +kernel) ⟨Nat.le_of_ble_eq_true rfl, Nat.le_of_ble_eq_true rfl⟩) hK hNW hXP hP hD hS hA rfl rfl rfl rfl (by decide) rfl rfl rfl rfl rfl rfl hl.1 rfl (Nat.le_of_ble_eq_true rfl) dL_freeLength_4 ⟨Nat.le_of_ble_eq_true rfl, Nat.le_of_ble_eq_true rfl⟩ (fun ce q9 H locs hP hD hS h1 h2 h3 => ?_)
  refine vx_catch (own := RL) (name := "java/lang/IndexOutOfBoundsException") hown [] ⟨0, 9, 12, 13⟩ [] (by rw [htab]; rfl) (fun z hz => nomatch hz) (by decide) (by decide) hck_13 (hXP.1.use _ (by decide +kernel)) h1 h2 h3 ?_
  show W p l e (rK 26 1 6) s mI args below meth c_0 H locs (0 + 1) (0 + 6) Q (F0 mI 12 ls [.ref q9])
  refine lv_astore_n (lv' := [(3, .ref q9), (0, .ref S0), (1, .int (iI x)), (2, .ref O0)]) hx hb dL_freeLength_12 rfl hl (by decide) rfl (fun ls hl => ?_)
  refine li_const hx hb dL_freeLength_13 ?_
  refine li_wide (k := 1) (n := 6) (Nat.le_of_ble_eq_true rfl) (Nat.le_of_ble_eq_true rfl) ?_
  exact li_iret () hx hb hr hlocks hK hP hD hS dL_freeLength_14 hQ rfl (congrArg iI (rfl))

set_option maxRecDepth 100000 in
set_option maxHeartbeats 4000000 in
theorem c_L_moveObstacle_ok {l : Launch} {D : va_G} {cI cZ cJ : ClassId} (n : Int) (L : Int) (a : Int) (gd : Int) (w : Wt) (op : Int → Int) (tn : Int → Int) (cnt : Int) (ln : Int → Int) (dr : Int → Int) (pl : Int → Int) (rp : Rt) (ov : Nat → Int64) (S0 L0 W0 W1 G0 G1 G2 B0 B1 B2 B3 P0 O0 L0t : Nat) (b : Int) (up : Int) (hn : 1 ≤ n ∧ n ≤ 6) (hL : 5 ≤ L ∧ L ≤ 40) (ha : 1 ≤ a ∧ a ≤ 50) (hw : WI n L a w) (hop : opB op) (hcnt : 0 ≤ cnt ∧ cnt ≤ 10) (hln : lnB ln) (hdr : lnB dr) (hpi : plI n pl) (hup : up = 0 ∨ up = 1) (hv : 0 ≤ b ∧ b ≤ cnt - 1) : CW l yL_moveObstacle wsL_moveObstacle 26 [.ref S0, .int (iI b), .int (iI up), .ref O0] D (ty3 cI cZ cJ) (cLs   S0 L0 L0t ++ cLa   L0 W0 G0 B0 P0 ++ cWa cI n L a gd w W0 W1 ++ cGa cI cZ op tn G0 G1 G2 ++ cFl cI cnt ln dr pl B0 B1 B2 B3 ++ cRp  rp P0 ++ cOu cJ ov O0) (0) (cLs   S0 L0 L0t ++ cLa   L0 W0 G0 B0 P0 ++ cWa cI n L a gd w W0 W1 ++ cGa cI cZ op tn G0 G1 G2 ++ cFl cI cnt ln dr pl B0 B1 B2 B3 ++ cRp  rp P0 ++ cOu cJ (vp_updL ov 0 (iI (mvO n a w op cnt ln dr pl b up)).toInt64) O0) := by
  refine ct_w (hh := [(0, 10, 13, 13)]) (plainFor_of_name (by decide)) rfl (Nat.le_of_ble_eq_true rfl) ?_
  intro p e s mI args below meth c_0 ls A hx hb hr hml hts hown hlocks htab hA hP hK hD hNW hXP hNC hS hl Q hQ
  have hown : s.vm.findClass RL = some mI.cls := hown
  have hl : lv_has ls 5 [(0, .ref S0), (1, .int (iI b)), (2, .int (iI up)), (3, .ref O0)] := hl
  refine lv_aload_n hx hb dL_moveObstacle_0 rfl (lv_at hl 3 rfl) ?_
  refine li_const hx hb dL_moveObstacle_1 ?_
  refine lv_aload_n hx hb dL_moveObstacle_2 rfl (lv_at hl 0 rfl) ?_
  refine lv_iload_n hx hb dL_moveObstacle_3 rfl (lv_at hl 1 rfl) ?_
  refine lv_iload_n hx hb dL_moveObstacle_4 rfl (lv_at hl 2 rfl) ?_
  refine cl_i0 (isC := [0, 1, 2, 3, 4, 5, 6, 7, 8, 9, 10, 11]) (isR := [12]) (isN := [1, 2, 3, 4, 5, 6, 7, 8, 9, 10, 11, 12, 0]) (wr := cOu cJ ov O0) (wn := cLs   S0 L0 L0t ++ cLa   L0 W0 G0 B0 P0 ++ cWa cI n L a gd w W0 W1 ++ cGa cI cZ op tn G0 G1 G2 ++ cFl cI cnt ln dr pl B0 B1 B2 B3 ++ cRp  rp P0 ++ cOu cJ ov O0) (As := [.int (iI b), .int (iI up)]) (rest := [.int (iI 0), .ref O0]) (r := mvO n a w op cnt ln dr pl b up) (ci := 5) (q0 := 0) ⟨hx, hb, hml, hown, hts⟩ (c_X5_moveObstacle_ok n L a gd w op tn cnt ln dr pl rp S0 L0 W0 W1 G0 G1 G2 B0 B1 B2 B3 P0 L0t b up (by first | assumption | omega) (by first | assumption | omega) (by first | assumption | omega) (by first | assumption | omega) (by first | assumption | omega) (by first | assumption | omega) (by first | assumption | omega) (by first | assumption | omega) (by first | assumption | omega) (by first | assumption | omega) (by first | assumption | omega)) (cwV 2 hts gL_moveObstacle_X5_moveObstacle rfl rfl rfl (by decide +kernel) ⟨Nat.le_of_ble_eq_true rfl, Nat.le_of_ble_eq_true rfl⟩) hK hNW hP hD hS hA rfl rfl rfl rfl (by decide) rfl rfl rfl rfl rfl rfl hl.1 rfl (Nat.le_of_ble_eq_true rfl) dL_moveObstacle_5 ⟨Nat.zero_le _, Nat.zero_le _⟩ (fun H locs hP hD hS => ?_)
  refine lv_i2l (v := (iI (mvO n a w op cnt ln dr pl b up)).toInt64) hx hb dL_moveObstacle_8 rfl ?_
  refine li_last (q0 := 12) (t0 := 2) (w2 := cLs   S0 L0 L0t ++ cLa   L0 W0 G0 B0 P0 ++ cWa cI n L a gd w W0 W1 ++ cGa cI cZ op tn G0 G1 G2 ++ cFl cI cnt ln dr pl B0 B1 B2 B3 ++ cRp  rp P0 ++ cOu cJ (vp_updL ov 0 ((iI (mvO n a w op cnt ln dr pl b up)).toInt64)) O0) hx hb hK hP hD hS rfl rfl dL_moveObstacle_9 rfl (fun H locs hP hD hS => ?_)
  refine lv_goto (tgt := 17) hx hb dL_moveObstacle_10 (by decide) ?_
  refine li_const hx hb dL_moveObstacle_17 ?_
  refine li_wide (k := 1) (n := 6) (Nat.le_of_ble_eq_true rfl) (Nat.le_of_ble_eq_true rfl) ?_
  exact li_iret () hx hb hr hlocks hK hP hD hS dL_moveObstacle_18 hQ rfl (congrArg iI (rfl))

set_option maxRecDepth 100000 in
set_option maxHeartbeats 4000000 in
theorem c_L_moveObstacle_no {l : Launch} {D : va_G} {cI cZ cJ : ClassId} (hl0 : l.stackTraces = false) (n : Int) (L : Int) (a : Int) (gd : Int) (w : Wt) (op : Int → Int) (tn : Int → Int) (cnt : Int) (ln : Int → Int) (dr : Int → Int) (pl : Int → Int) (rp : Rt) (ov : Nat → Int64) (S0 L0 W0 W1 G0 G1 G2 B0 B1 B2 B3 P0 O0 L0t : Nat) (b : Int) (up : Int) (hcnt : 0 ≤ cnt ∧ cnt ≤ 10) (i_b : -2147483648 ≤ b ∧ b < 2147483648) (hv : ¬ (0 ≤ b ∧ b ≤ cnt - 1)) (h01up : up = 0 ∨ up = 1) : CW l yL_moveObstacle wsL_moveObstacle 26 [.ref S0, .int (iI b), .int (iI up), .ref O0] D (ty3 cI cZ cJ) (cLs   S0 L0 L0t ++ cLa   L0 W0 G0 B0 P0 ++ cWa cI n L a gd w W0 W1 ++ cGa cI cZ op tn G0 G1 G2 ++ cFl cI cnt ln dr pl B0 B1 B2 B3 ++ cRp  rp P0 ++ cOu cJ ov O0) (1) (cLs   S0 L0 L0t ++ cLa   L0 W0 G0 B0 P0 ++ cWa cI n L a gd w W0 W1 ++ cGa cI cZ op tn G0 G1 G2 ++ cFl cI cnt ln dr pl B0 B1 B2 B3 ++ cRp  rp P0 ++ cOu cJ ov O0) := by
  refine ct_w (hh := [(0, 10, 13, 13)]) (plainFor_of_name (by decide)) rfl (Nat.le_of_ble_eq_true rfl) ?_
  intro p e s mI args below meth c_0 ls A hx hb hr hml hts hown hlocks htab hA hP hK hD hNW hXP hNC hS hl Q hQ
  have hown : s.vm.findClass RL = some mI.cls := hown
  have hl : lv_has ls 5 [(0, .ref S0), (1, .int (iI b)), (2, .int (iI up)), (3, .ref O0)] := hl
  have hck_13 := hts (.classLink RL 13 "java/lang/IndexOutOfBoundsException") (by decide +kernel)
  refine lv_aload_n hx hb dL_moveObstacle_0 rfl (lv_at hl 3 rfl) ?_
  refine li_const hx hb dL_moveObstacle_1 ?_
  refine lv_aload_n hx hb dL_moveObstacle_2 rfl (lv_at hl 0 rfl) ?_
  refine lv_iload_n hx hb dL_moveObstacle_3 rfl (lv_at hl 1 rfl) ?_
  refine lv_iload_n hx hb dL_moveObstacle_4 rfl (lv_at hl 2 rfl) ?_
  refine cl_t (isC := [0, 1, 2, 3, 4, 5, 6, 7, 8, 9, 10, 11]) (isR := [12]) (isN := [1, 2, 3, 4, 5, 6, 7, 8, 9, 10, 11, 12, 0]) (wr := cOu cJ ov O0) (As := [.int (iI b), .int (iI up)]) (rest := [.int (iI 0), .ref O0]) (ci := 5) (q0 := 0) ⟨hx, hb, hml, hown, hts⟩ (c_X5_moveObstacle_no hl0 n L a gd w op tn cnt ln dr pl rp S0 L0 W0 W1 G0 G1 G2 B0 B1 B2 B3 P0 L0t b up (by first | assumption | omega) (by first | assumption | omega) (by first | assumption | omega)) (cwV 2 hts gL_moveObstacle_X5_moveObstacle rfl rfl rfl (by decide +kernel) ⟨Nat.le_of_ble_eq_true rfl, Nat.le_of_ble_eq_true rfl⟩) hK hNW hXP hP hD hS hA rfl rfl rfl rfl (by decide) rfl rfl rfl rfl rfl rfl hl.1 rfl (Nat.le_of_ble_eq_true rfl) dL_moveObstacle_5 ⟨Nat.le_of_ble_eq_true rfl, Nat.le_of_ble_eq_true rfl⟩ (fun ce q9 H locs hP hD hS h1 h2 h3 => ?_)
  refine vx_catch (own := RL) (name := "java/lang/IndexOutOfBoundsException") hown [] ⟨0, 10, 13, 13⟩ [] (by rw [htab]; rfl) (fun z hz => nomatch hz) (by decide) (by decide) hck_13 (hXP.1.use _ (by decide +kernel)) h1 h2 h3 ?_
  show W p l e (rK 26 1 6) s mI args below meth c_0 H locs (0 + 1) (0 + 6) Q (F0 mI 13 ls [.ref q9])
  refine lv_astore (lv' := [(4, .ref q9), (0, .ref S0), (1, .int (iI b)), (2, .int (iI up)), (3, .ref O0)]) hx hb dL_moveObstacle_13 hl (by decide) rfl (fun ls hl => ?_)
  refine li_const hx hb dL_moveObstacle_15 ?_
  refine li_wide (k := 1) (n := 6) (Nat.le_of_ble_eq_true rfl) (Nat.le_of_ble_eq_true rfl) ?_
  exact li_iret () hx hb hr hlocks hK hP hD hS dL_moveObstacle_16 hQ rfl (congrArg iI (rfl))

set_option maxRecDepth 100000 in
set_option maxHeartbeats 4000000 in
theorem c_L_move_ok {l : Launch} {D : va_G} {cI cZ cJ : ClassId} (n : Int) (L : Int) (a : Int) (gd : Int) (w : Wt) (op : Int → Int) (tn : Int → Int) (cnt : Int) (ln : Int → Int) (dr : Int → Int) (pl : Int → Int) (rp : Rt) (ov : Nat → Int64) (S0 L0 W0 W1 G0 G1 G2 B0 B1 B2 B3 P0 O0 L0t : Nat) (b : Int) (up : Int) (hn : 1 ≤ n ∧ n ≤ 6) (hL : 5 ≤ L ∧ L ≤ 40) (ha : 1 ≤ a ∧ a ≤ 50) (hw : WI n L a w) (hop : opB op) (hcnt : 0 ≤ cnt ∧ cnt ≤ 10) (hln : lnB ln) (hdr : lnB dr) (hpi : plI n pl) (hup : up = 0 ∨ up = 1) (hv : 0 ≤ b ∧ b ≤ cnt - 1) (hc : mvO n a w op cnt ln dr pl b up = 0) : CW l yL_move wsL_move 26 [.ref S0, .int (iI b), .int (iI up), .ref O0] D (ty3 cI cZ cJ) (cLs   S0 L0 L0t ++ cLa   L0 W0 G0 B0 P0 ++ cWa cI n L a gd w W0 W1 ++ cGa cI cZ op tn G0 G1 G2 ++ cFl cI cnt ln dr pl B0 B1 B2 B3 ++ cRp  rp P0 ++ cOu cJ ov O0) (0) (cLs   S0 L0 L0t ++ cLa   L0 W0 G0 B0 P0 ++ cWa cI n L a gd w W0 W1 ++ cGa cI cZ op tn G0 G1 G2 ++ cFl cI cnt ln dr (upZ pl b (plN pl b up)) B0 B1 B2 B3 ++ cRp  rp P0 ++ cOu cJ (vp_updL ov 0 (iI (plN pl b up)).toInt64) O0) := by
  refine ct_w (hh := [(0, 10, 13, 13), (0, 10, 17, 20)]) (plainFor_of_name (by decide)) rfl (Nat.le_of_ble_eq_true rfl) ?_
  intro p e s mI args below meth c_0 ls A hx hb hr hml hts hown hlocks htab hA hP hK hD hNW hXP hNC hS hl Q hQ
  have hown : s.vm.findClass RL = some mI.cls := hown
  have hl : lv_has ls 5 [(0, .ref S0), (1, .int (iI b)), (2, .int (iI up)), (3, .ref O0)] := hl
  refine lv_aload_n hx hb dL_move_0 rfl (lv_at hl 3 rfl) ?_
  refine li_const hx hb dL_move_1 ?_
  refine lv_aload_n hx hb dL_move_2 rfl (lv_at hl 0 rfl) ?_
  refine lv_iload_n hx hb dL_move_3 rfl (lv_at hl 1 rfl) ?_
  refine lv_iload_n hx hb dL_move_4 rfl (lv_at hl 2 rfl) ?_
  refine cl_i0 (isC := [0, 1, 2, 3, 4, 5, 6, 7, 8, 9, 10, 11]) (isR := [12]) (isN := [1, 2, 3, 4, 5, 6, 7, 8, 9, 10, 11, 12, 0]) (wr := cOu cJ ov O0) (wn := cLs   S0 L0 L0t ++ cLa   L0 W0 G0 B0 P0 ++ cWa cI n L a gd w W0 W1 ++ cGa cI cZ op tn G0 G1 G2 ++ cFl cI cnt ln dr (upZ pl b (plN pl b up)) B0 B1 B2 B3 ++ cRp  rp P0 ++ cOu cJ ov O0) (As := [.int (iI b), .int (iI up)]) (rest := [.int (iI 0), .ref O0]) (r := plN pl b up) (ci := 5) (q0 := 0) ⟨hx, hb, hml, hown, hts⟩ (c_X5_move_ok n L a gd w op tn cnt ln dr pl rp S0 L0 W0 W1 G0 G1 G2 B0 B1 B2 B3 P0 L0t b up (by first | assumption | omega) (by first | assumption | omega) (by first | assumption | omega) (by first | assumption | omega) (by first | assumption | omega) (by first | assumption | omega) (by first | assumption | omega) (by first | assumption | omega) (by first | assumption | omega) (by first | assumption | omega) (by first | assumption | omega) (by first | assumption | omega)) (cwV 2 hts gL_move_X5_move rfl rfl rfl (by decide +kernel) ⟨Nat.le_of_ble_eq_true rfl, Nat.le_of_ble_eq_true rfl⟩) hK hNW hP hD hS hA rfl rfl rfl rfl (by decide) rfl rfl rfl rfl rfl rfl hl.1 rfl (Nat.le_of_ble_eq_true rfl) dL_move_5 ⟨Nat.zero_le _, Nat.zero_le _⟩ (fun H locs hP hD hS => ?_)
  refine lv_i2l (v := (iI (plN pl b up)).toInt64) hx hb dL_move_8 rfl ?_
  refine li_last (q0 := 12) (t0 := 2) (w2 := cLs   S0 L0 L0t ++ cLa   L0 W0 G0 B0 P0 ++ cWa cI n L a gd w W0 W1 ++ cGa cI cZ op tn G0 G1 G2 ++ cFl cI cnt ln dr (upZ pl b (plN pl b up)) B0 B1 B2 B3 ++ cRp  rp P0 ++ cOu cJ (vp_updL ov 0 ((iI (plN pl b up)).toInt64)) O0) hx hb hK hP hD hS rfl rfl dL_move_9 rfl (fun H locs hP hD hS => ?_)
  refine lv_goto (tgt := 21) hx hb dL_move_10 (by decide) ?_
  refine li_const hx hb dL_move_21 ?_
  refine li_wide (k := 1) (n := 6) (Nat.le_of_ble_eq_true rfl) (Nat.le_of_ble_eq_true rfl) ?_
  exact li_iret () hx hb hr hlocks hK hP hD hS dL_move_22 hQ rfl (congrArg iI (rfl))

set_option maxRecDepth 100000 in
set_option maxHeartbeats 4000000 in
theorem c_L_move_no1 {l : Launch} {D : va_G} {cI cZ cJ : ClassId} (hl0 : l.stackTraces = false) (n : Int) (L : Int) (a : Int) (gd : Int) (w : Wt) (op : Int → Int) (tn : Int → Int) (cnt : Int) (ln : Int → Int) (dr : Int → Int) (pl : Int → Int) (rp : Rt) (ov : Nat → Int64) (S0 L0 W0 W1 G0 G1 G2 B0 B1 B2 B3 P0 O0 L0t : Nat) (b : Int) (up : Int) (hcnt : 0 ≤ cnt ∧ cnt ≤ 10) (i_b : -2147483648 ≤ b ∧ b < 2147483648) (hv : ¬ (0 ≤ b ∧ b ≤ cnt - 1)) (h01up : up = 0 ∨ up = 1) : CW l yL_move wsL_move 26 [.ref S0, .int (iI b), .int (iI up), .ref O0] D (ty3 cI cZ cJ) (cLs   S0 L0 L0t ++ cLa   L0 W0 G0 B0 P0 ++ cWa cI n L a gd w W0 W1 ++ cGa cI cZ op tn G0 G1 G2 ++ cFl cI cnt ln dr pl B0 B1 B2 B3 ++ cRp  rp P0 ++ cOu cJ ov O0) (1) (cLs   S0 L0 L0t ++ cLa   L0 W0 G0 B0 P0 ++ cWa cI n L a gd w W0 W1 ++ cGa cI cZ op tn G0 G1 G2 ++ cFl cI cnt ln dr pl B0 B1 B2 B3 ++ cRp  rp P0 ++ cOu cJ ov O0) := by
  refine ct_w (hh := [(0, 10, 13, 13), (0, 10, 17, 20)]) (plainFor_of_name (by decide)) rfl (Nat.le_of_ble_eq_true rfl) ?_
  intro p e s mI args below meth c_0 ls A hx hb hr hml hts hown hlocks htab hA hP hK hD hNW hXP hNC hS hl Q hQ
  have hown : s.vm.findClass RL = some mI.cls := hown
  have hl : lv_has ls 5 [(0, .ref S0), (1, .int (iI b)), (2, .int (iI up)), (3, .ref O0)] := hl
  have hck_13 := hts (.classLink RL 13 "java/lang/IndexOutOfBoundsException") (by decide +kernel)
  refine lv_aload_n hx hb dL_move_0 rfl (lv_at hl 3 rfl) ?_
  refine li_const hx hb dL_move_1 ?_
  refine lv_aload_n hx hb dL_move_2 rfl (lv_at hl 0 rfl) ?_
  refine lv_iload_n hx hb dL_move_3 rfl (lv_at hl 1 rfl) ?_
  refine lv_iload_n hx hb dL_move_4 rfl (lv_at hl 2 rfl) ?_
  refine cl_t (isC := [0, 1, 2, 3, 4, 5, 6, 7, 8, 9, 10, 11]) (isR := [12]) (isN := [1, 2, 3, 4, 5, 6, 7, 8, 9, 10, 11, 12, 0]) (wr := cOu cJ ov O0) (As := [.int (iI b), .int (iI up)]) (rest := [.int (iI 0), .ref O0]) (ci := 5) (q0 := 0) ⟨hx, hb, hml, hown, hts⟩ (c_X5_move_no1 hl0 n L a gd w op tn cnt ln dr pl rp S0 L0 W0 W1 G0 G1 G2 B0 B1 B2 B3 P0 L0t b up (by first | assumption | omega) (by first | assumption | omega) (by first | assumption | omega)) (cwV 2 hts gL_move_X5_move rfl rfl rfl (by decide +kernel) ⟨Nat.le_of_ble_eq_true rfl, Nat.le_of_ble_eq_true rfl⟩) hK hNW hXP hP hD hS hA rfl rfl rfl rfl (by decide) rfl rfl rfl rfl rfl rfl hl.1 rfl (Nat.le_of_ble_eq_true rfl) dL_move_5 ⟨Nat.le_of_ble_eq_true rfl, Nat.le_of_ble_eq_true rfl⟩ (fun ce q9 H locs hP hD hS h1 h2 h3 => ?_)
  refine vx_catch (own := RL) (name := "java/lang/IndexOutOfBoundsException") hown [] ⟨0, 10, 13, 13⟩ [⟨0, 10, 17, 20⟩] (by rw [htab]; rfl) (fun z hz => nomatch hz) (by decide) (by decide) hck_13 (hXP.1.use _ (by decide +kernel)) h1 h2 h3 ?_
  show W p l e (rK 26 1 6) s mI args below meth c_0 H locs (0 + 1) (0 + 6) Q (F0 mI 13 ls [.ref q9])
  refine lv_astore (lv' := [(4, .ref q9), (0, .ref S0), (1, .int (iI b)), (2, .int (iI up)), (3, .ref O0)]) hx hb dL_move_13 hl (by decide) rfl (fun ls hl => ?_)
  refine li_const hx hb dL_move_15 ?_
  refine li_wide (k := 1) (n := 6) (Nat.le_of_ble_eq_true rfl) (Nat.le_of_ble_eq_true rfl) ?_
  exact li_iret () hx hb hr hlocks hK hP hD hS dL_move_16 hQ rfl (congrArg iI (rfl))

set_option maxRecDepth 100000 in
set_option maxHeartbeats 4000000 in
theorem c_L_move_no2 {l : Launch} {D : va_G} {cI cZ cJ : ClassId} (hl0 : l.stackTraces = false) (n : Int) (L : Int) (a : Int) (gd : Int) (w : Wt) (op : Int → Int) (tn : Int → Int) (cnt : Int) (ln : Int → Int) (dr : Int → Int) (pl : Int → Int) (rp : Rt) (ov : Nat → Int64) (S0 L0 W0 W1 G0 G1 G2 B0 B1 B2 B3 P0 O0 L0t : Nat) (b : Int) (up : Int) (hn : 1 ≤ n ∧ n ≤ 6) (hL : 5 ≤ L ∧ L ≤ 40) (ha : 1 ≤ a ∧ a ≤ 50) (hw : WI n L a w) (hop : opB op) (hcnt : 0 ≤ cnt ∧ cnt ≤ 10) (hln : lnB ln) (hdr : lnB dr) (hpi : plI n pl) (hup : up = 0 ∨ up = 1) (hv : 0 ≤ b ∧ b ≤ cnt - 1) (hc : mvO n a w op cnt ln dr pl b up ≠ 0) : CW l yL_move wsL_move 26 [.ref S0, .int (iI b), .int (iI up), .ref O0] D (ty3 cI cZ cJ) (cLs   S0 L0 L0t ++ cLa   L0 W0 G0 B0 P0 ++ cWa cI n L a gd w W0 W1 ++ cGa cI cZ op tn G0 G1 G2 ++ cFl cI cnt ln dr pl B0 B1 B2 B3 ++ cRp  rp P0 ++ cOu cJ ov O0) (2) (cLs   S0 L0 L0t ++ cLa   L0 W0 G0 B0 P0 ++ cWa cI n L a gd w W0 W1 ++ cGa cI cZ op tn G0 G1 G2 ++ cFl cI cnt ln dr pl B0 B1 B2 B3 ++ cRp  rp P0 ++ cOu cJ ov O0) := by
  refine ct_w (hh := [(0, 10, 13, 13), (0, 10, 17, 20)]) (plainFor_of_name (by decide)) rfl (Nat.le_of_ble_eq_true rfl) ?_
  intro p e s mI args below meth c_0 ls A hx hb hr hml hts hown hlocks htab hA hP hK hD hNW hXP hNC hS hl Q hQ
  have hown : s.vm.findClass RL = some mI.cls := hown
  have hl : lv_has ls 5 [(0, .ref S0), (1, .int (iI b)), (2, .int (iI up)), (3, .ref O0)] := hl
  have hck_13 := hts (.classLink RL 13 "java/lang/IndexOutOfBoundsException") (by decide +kernel)
  have hck_20 := hts (.classLink RL 20 "java/lang/IllegalStateException") (by decide +kernel)
  refine lv_aload_n hx hb dL_move_0 rfl (lv_at hl 3 rfl) ?_
  refine li_const hx hb dL_move_1 ?_
  refine lv_aload_n hx hb dL_move_2 rfl (lv_at hl 0 rfl) ?_
  refine lv_iload_n hx hb dL_move_3 rfl (lv_at hl 1 rfl) ?_
  refine lv_iload_n hx hb dL_move_4 rfl (lv_at hl 2 rfl) ?_
  refine cl_t (isC := [0, 1, 2, 3, 4, 5, 6, 7, 8, 9, 10, 11]) (isR := [12]) (isN := [1, 2, 3, 4, 5, 6, 7, 8, 9, 10, 11, 12, 0]) (wr := cOu cJ ov O0) (As := [.int (iI b), .int (iI up)]) (rest := [.int (iI 0), .ref O0]) (ci := 5) (q0 := 0) ⟨hx, hb, hml, hown, hts⟩ (c_X5_move_no2 hl0 n L a gd w op tn cnt ln dr pl rp S0 L0 W0 W1 G0 G1 G2 B0 B1 B2 B3 P0 L0t b up (by first | assumption | omega) (by first | assumption | omega) (by first | assumption | omega) (by first | assumption | omega) (by first | assumption | omega) (by first | assumption | omega) (by first | assumption | omega) (by first | assumption | omega) (by first | assumption | omega) (by first | assumption | omega) (by first | assumption | omega) (by first | assumption | omega)) (cwV 2 hts gL_move_X5_move rfl rfl rfl (by decide +kernel) ⟨Nat.le_of_ble_eq_true rfl, Nat.le_of_ble_eq_true rfl⟩) hK hNW hXP hP hD hS hA rfl rfl rfl rfl (by decide) rfl rfl rfl rfl rfl rfl hl.1 rfl (Nat.le_of_ble_eq_true rfl) dL_move_5 ⟨Nat.le_of_ble_eq_true rfl, Nat.le_of_ble_eq_true rfl⟩ (fun ce q9 H locs hP hD hS h1 h2 h3 => ?_)
  refine vx_catch (own := RL) (name := "java/lang/IllegalStateException") hown [⟨0, 10, 13, 13⟩] ⟨0, 10, 17, 20⟩ [] (by rw [htab]; rfl) (fun z hz => by simp only [List.mem_cons, List.not_mem_nil, or_false] at hz; subst hz; exact Or.inr ⟨by decide, "java/lang/IndexOutOfBoundsException", hck_13, hNC.2.1⟩) (by decide) (by decide) hck_20 (hXP.1.use _ (by decide +kernel)) h1 h2 h3 ?_
  show W p l e (rK 26 1 6) s mI args below meth c_0 H locs (0 + 1) (0 + 6) Q (F0 mI 17 ls [.ref q9])
  refine lv_astore (lv' := [(4, .ref q9), (0, .ref S0), (1, .int (iI b)), (2, .int (iI up)), (3, .ref O0)]) hx hb dL_move_17 hl (by decide) rfl (fun ls hl => ?_)
  refine li_const hx hb dL_move_19 ?_
  refine li_wide (k := 1) (n := 6) (Nat.le_of_ble_eq_true rfl) (Nat.le_of_ble_eq_true rfl) ?_
  exact li_iret () hx hb hr hlocks hK hP hD hS dL_move_20 hQ rfl (congrArg iI (rfl))

set_option maxRecDepth 100000 in
set_option maxHeartbeats 4000000 in
theorem c_L_take_ok {l : Launch} {D : va_G} {cI cZ cJ : ClassId} (n : Int) (L : Int) (a : Int) (gd : Int) (w : Wt) (op : Int → Int) (tn : Int → Int) (cnt : Int) (ln : Int → Int) (dr : Int → Int) (pl : Int → Int) (rp : Rt) (ov : Nat → Int64) (S0 L0 W0 W1 G0 G1 G2 B0 B1 B2 B3 P0 O0 L0t : Nat) (b : Int) (up : Int) (hn : 1 ≤ n ∧ n ≤ 6) (hL : 5 ≤ L ∧ L ≤ 40) (ha : 1 ≤ a ∧ a ≤ 50) (hw : WI n L a w) (hcnt : 0 ≤ cnt ∧ cnt ≤ 10) (hln : lnB ln) (hdr : lnB dr) (hpi : plI n pl) (hup : up = 0 ∨ up = 1) (hv : 0 ≤ b ∧ b ≤ cnt - 1) : CW l yL_take wsL_take 26 [.ref S0, .int (iI b), .int (iI up), .ref O0] D (ty3 cI cZ cJ) (cLs   S0 L0 L0t ++ cLa   L0 W0 G0 B0 P0 ++ cWa cI n L a gd w W0 W1 ++ cGa cI cZ op tn G0 G1 G2 ++ cFl cI cnt ln dr pl B0 B1 B2 B3 ++ cRp  rp P0 ++ cOu cJ ov O0) (0) (cLs   S0 L0 L0t ++ cLa   L0 W0 G0 B0 P0 ++ cWa cI n L a gd ((brM n L a cnt ln dr b up 7 pl w).2.1) W0 W1 ++ cGa cI cZ (zrZ op 7) (zrZ tn 7) G0 G1 G2 ++ cFl cI cnt ln dr ((brM n L a cnt ln dr b up 7 pl w).1) B0 B1 B2 B3 ++ cRp  (rpF rp (brM n L a cnt ln dr b up 7 pl w).2.2) P0 ++ cOu cJ (vp_updL ov 0 (iI ((brM n L a cnt ln dr b up 7 pl w).1 b)).toInt64) O0) := by
  refine ct_w (hh := [(0, 10, 13, 13)]) (plainFor_of_name (by decide)) rfl (Nat.le_of_ble_eq_true rfl) ?_
  intro p e s mI args below meth c_0 ls A hx hb hr hml hts hown hlocks htab hA hP hK hD hNW hXP hNC hS hl Q hQ
  have hown : s.vm.findClass RL = some mI.cls := hown
  have hl : lv_has ls 5 [(0, .ref S0), (1, .int (iI b)), (2, .int (iI up)), (3, .ref O0)] := hl
  refine lv_aload_n hx hb dL_take_0 rfl (lv_at hl 3 rfl) ?_
  refine li_const hx hb dL_take_1 ?_
  refine lv_aload_n hx hb dL_take_2 rfl (lv_at hl 0 rfl) ?_
  refine lv_iload_n hx hb dL_take_3 rfl (lv_at hl 1 rfl) ?_
  refine lv_iload_n hx hb dL_take_4 rfl (lv_at hl 2 rfl) ?_
  refine cl_i0 (isC := [0, 1, 2, 3, 4, 5, 6, 7, 8, 9, 10, 11]) (isR := [12]) (isN := [1, 2, 3, 4, 5, 6, 7, 8, 9, 10, 11, 12, 0]) (wr := cOu cJ ov O0) (wn := cLs   S0 L0 L0t ++ cLa   L0 W0 G0 B0 P0 ++ cWa cI n L a gd ((brM n L a cnt ln dr b up 7 pl w).2.1) W0 W1 ++ cGa cI cZ (zrZ op 7) (zrZ tn 7) G0 G1 G2 ++ cFl cI cnt ln dr ((brM n L a cnt ln dr b up 7 pl w).1) B0 B1 B2 B3 ++ cRp  (rpF rp (brM n L a cnt ln dr b up 7 pl w).2.2) P0 ++ cOu cJ ov O0) (As := [.int (iI b), .int (iI up)]) (rest := [.int (iI 0), .ref O0]) (r := (brM n L a cnt ln dr b up 7 pl w).1 b) (ci := 5) (q0 := 0) ⟨hx, hb, hml, hown, hts⟩ (c_X5_take_ok n L a gd w op tn cnt ln dr pl rp S0 L0 W0 W1 G0 G1 G2 B0 B1 B2 B3 P0 L0t b up (by first | assumption | omega) (by first | assumption | omega) (by first | assumption | omega) (by first | assumption | omega) (by first | assumption | omega) (by first | assumption | omega) (by first | assumption | omega) (by first | assumption | omega) (by first | assumption | omega) (by first | assumption | omega)) (cwV 2 hts gL_take_X5_take rfl rfl rfl (by decide +kernel) ⟨Nat.le_of_ble_eq_true rfl, Nat.le_of_ble_eq_true rfl⟩) hK hNW hP hD hS hA rfl rfl rfl rfl (by decide) rfl rfl rfl rfl rfl rfl hl.1 rfl (Nat.le_of_ble_eq_true rfl) dL_take_5 ⟨Nat.zero_le _, Nat.zero_le _⟩ (fun H locs hP hD hS => ?_)
  refine lv_i2l (v := (iI ((brM n L a cnt ln dr b up 7 pl w).1 b)).toInt64) hx hb dL_take_8 rfl ?_
  refine li_last (q0 := 12) (t0 := 2) (w2 := cLs   S0 L0 L0t ++ cLa   L0 W0 G0 B0 P0 ++ cWa cI n L a gd ((brM n L a cnt ln dr b up 7 pl w).2.1) W0 W1 ++ cGa cI cZ (zrZ op 7) (zrZ tn 7) G0 G1 G2 ++ cFl cI cnt ln dr ((brM n L a cnt ln dr b up 7 pl w).1) B0 B1 B2 B3 ++ cRp  (rpF rp (brM n L a cnt ln dr b up 7 pl w).2.2) P0 ++ cOu cJ (vp_updL ov 0 ((iI ((brM n L a cnt ln dr b up 7 pl w).1 b)).toInt64)) O0) hx hb hK hP hD hS rfl rfl dL_take_9 rfl (fun H locs hP hD hS => ?_)
  refine lv_goto (tgt := 17) hx hb dL_take_10 (by decide) ?_
  refine li_const hx hb dL_take_17 ?_
  refine li_wide (k := 1) (n := 6) (Nat.le_of_ble_eq_true rfl) (Nat.le_of_ble_eq_true rfl) ?_
  exact li_iret () hx hb hr hlocks hK hP hD hS dL_take_18 hQ rfl (congrArg iI (rfl))

set_option maxRecDepth 100000 in
set_option maxHeartbeats 4000000 in
theorem c_L_take_no {l : Launch} {D : va_G} {cI cZ cJ : ClassId} (hl0 : l.stackTraces = false) (n : Int) (L : Int) (a : Int) (gd : Int) (w : Wt) (op : Int → Int) (tn : Int → Int) (cnt : Int) (ln : Int → Int) (dr : Int → Int) (pl : Int → Int) (rp : Rt) (ov : Nat → Int64) (S0 L0 W0 W1 G0 G1 G2 B0 B1 B2 B3 P0 O0 L0t : Nat) (b : Int) (up : Int) (hcnt : 0 ≤ cnt ∧ cnt ≤ 10) (i_b : -2147483648 ≤ b ∧ b < 2147483648) (hv : ¬ (0 ≤ b ∧ b ≤ cnt - 1)) (h01up : up = 0 ∨ up = 1) : CW l yL_take wsL_take 26 [.ref S0, .int (iI b), .int (iI up), .ref O0] D (ty3 cI cZ cJ) (cLs   S0 L0 L0t ++ cLa   L0 W0 G0 B0 P0 ++ cWa cI n L a gd w W0 W1 ++ cGa cI cZ op tn G0 G1 G2 ++ cFl cI cnt ln dr pl B0 B1 B2 B3 ++ cRp  rp P0 ++ cOu cJ ov O0) (1) (cLs   S0 L0 L0t ++ cLa   L0 W0 G0 B0 P0 ++ cWa cI n L a gd w W0 W1 ++ cGa cI cZ op tn G0 G1 G2 ++ cFl cI cnt ln dr pl B0 B1 B2 B3 ++ cRp  rp P0 ++ cOu cJ ov O0) := by
  refine ct_w (hh := [(0, 10, 13, 13)]) (plainFor_of_name (by decide)) rfl (Nat.le_of_ble_eq_true rfl) ?_
  intro p e s mI args below meth c_0 ls A hx hb hr hml hts hown hlocks htab hA hP hK hD hNW hXP hNC hS hl Q hQ
  have hown : s.vm.findClass RL = some mI.cls := hown
  have hl : lv_has ls 5 [(0, .ref S0), (1, .int (iI b)), (2, .int (iI up)), (3, .ref O0)] := hl
  have hck_13 := hts (.classLink RL 13 "java/lang/IndexOutOfBoundsException") (by decide +kernel)
  refine lv_aload_n hx hb dL_take_0 rfl (lv_at hl 3 rfl) ?_
  refine li_const hx hb dL_take_1 ?_
  refine lv_aload_n hx hb dL_take_2 rfl (lv_at hl 0 rfl) ?_
  refine lv_iload_n hx hb dL_take_3 rfl (lv_at hl 1 rfl) ?_
  refine lv_iload_n hx hb dL_take_4 rfl (lv_at hl 2 rfl) ?_
  refine cl_t (isC := [0, 1, 2, 3, 4, 5, 6, 7, 8, 9, 10, 11]) (isR := [12]) (isN := [1, 2, 3, 4, 5, 6, 7, 8, 9, 10, 11, 12, 0]) (wr := cOu cJ ov O0) (As := [.int (iI b), .int (iI up)]) (rest := [.int (iI 0), .ref O0]) (ci := 5) (q0 := 0) ⟨hx, hb, hml, hown, hts⟩ (c_X5_take_no hl0 n L a gd w op tn cnt ln dr pl rp S0 L0 W0 W1 G0 G1 G2 B0 B1 B2 B3 P0 L0t b up (by first | assumption | omega) (by first | assumption | omega) (by first | assumption | omega)) (cwV 2 hts gL_take_X5_take rfl rfl rfl (by decide +kernel) ⟨Nat.le_of_ble_eq_true rfl, Nat.le_of_ble_eq_true rfl⟩) hK hNW hXP hP hD hS hA rfl rfl rfl rfl (by decide) rfl rfl rfl rfl rfl rfl hl.1 rfl (Nat.le_of_ble_eq_true rfl) dL_take_5 ⟨Nat.le_of_ble_eq_true rfl, Nat.le_of_ble_eq_true rfl⟩ (fun ce q9 H locs hP hD hS h1 h2 h3 => ?_)
  refine vx_catch (own := RL) (name := "java/lang/IndexOutOfBoundsException") hown [] ⟨0, 10, 13, 13⟩ [] (by rw [htab]; rfl) (fun z hz => nomatch hz) (by decide) (by decide) hck_13 (hXP.1.use _ (by decide +kernel)) h1 h2 h3 ?_
  show W p l e (rK 26 1 6) s mI args below meth c_0 H locs (0 + 1) (0 + 6) Q (F0 mI 13 ls [.ref q9])
  refine lv_astore (lv' := [(4, .ref q9), (0, .ref S0), (1, .int (iI b)), (2, .int (iI up)), (3, .ref O0)]) hx hb dL_take_13 hl (by decide) rfl (fun ls hl => ?_)
  refine li_const hx hb dL_take_15 ?_
  refine li_wide (k := 1) (n := 6) (Nat.le_of_ble_eq_true rfl) (Nat.le_of_ble_eq_true rfl) ?_
  exact li_iret () hx hb hr hlocks hK hP hD hS dL_take_16 hQ rfl (congrArg iI (rfl))

set_option maxRecDepth 100000 in
set_option maxHeartbeats 4000000 in
theorem c_L_minutesFor_ok {l : Launch} {D : va_G} {cI cZ cJ : ClassId} (n : Int) (L : Int) (a : Int) (gd : Int) (w : Wt) (op : Int → Int) (tn : Int → Int) (cnt : Int) (ln : Int → Int) (dr : Int → Int) (pl : Int → Int) (rp : Rt) (gdt : Int) (wt : Wt) (opt : Int → Int) (tnt : Int → Int) (cntt : Int) (lnt : Int → Int) (drt : Int → Int) (plt : Int → Int) (rpt : Rt) (ov : Nat → Int64) (S0 L0 W0 W1 G0 G1 G2 B0 B1 B2 B3 P0 L0t W0t W1t G0t G1t G2t B0t B1t B2t B3t P0t O0 : Nat) (b : Int) (up : Int) (hn : 1 ≤ n ∧ n ≤ 6) (hL : 5 ≤ L ∧ L ≤ 40) (ha : 1 ≤ a ∧ a ≤ 50) (hw : WI n L a w) (hcnt : 0 ≤ cnt ∧ cnt ≤ 10) (hln : lnB ln) (hdr : lnB dr) (hpi : plI n pl) (hup : up = 0 ∨ up = 1) (hrt : RI rpt) (hv : 0 ≤ b ∧ b ≤ cnt - 1) : CW l yL_minutesFor wsL_minutesFor 26 [.ref S0, .int (iI b), .int (iI up), .ref O0] D (ty3 cI cZ cJ) (cLs   S0 L0 L0t ++ cLa   L0 W0 G0 B0 P0 ++ cWa cI n L a gd w W0 W1 ++ cGa cI cZ op tn G0 G1 G2 ++ cFl cI cnt ln dr pl B0 B1 B2 B3 ++ cRp  rp P0 ++ cLa   L0t W0t G0t B0t P0t ++ cWa cI n L a gdt wt W0t W1t ++ cGa cI cZ opt tnt G0t G1t G2t ++ cFl cI cntt lnt drt plt B0t B1t B2t B3t ++ cRp  rpt P0t ++ cOu cJ ov O0) (0) (cLs   S0 L0 L0t ++ cLa   L0 W0 G0 B0 P0 ++ cWa cI n L a gd w W0 W1 ++ cGa cI cZ op tn G0 G1 G2 ++ cFl cI cnt ln dr pl B0 B1 B2 B3 ++ cRp  rp P0 ++ cLa   L0t W0t G0t B0t P0t ++ cWa cI n L a gd ((brM n L a cnt ln dr b up 7 pl w).2.1) W0t W1t ++ cGa cI cZ (zrZ opt 7) (zrZ tnt 7) G0t G1t G2t ++ cFl cI cnt ln dr ((brM n L a cnt ln dr b up 7 pl w).1) B0t B1t B2t B3t ++ cRp  (rpF rpt (brM n L a cnt ln dr b up 7 pl w).2.2) P0t ++ cOu cJ (vp_updL ov 0 (iI (if (brM n L a cnt ln dr b up 7 pl w).2.2.2.2 = -1 then (brM n L a cnt ln dr b up 7 pl w).2.1.2.2.1 - w.2.2.1 else -1)).toInt64) O0) := by
  refine ct_w (hh := [(0, 10, 13, 13)]) (plainFor_of_name (by decide)) rfl (Nat.le_of_ble_eq_true rfl) ?_
  intro p e s mI args below meth c_0 ls A hx hb hr hml hts hown hlocks htab hA hP hK hD hNW hXP hNC hS hl Q hQ
  have hown : s.vm.findClass RL = some mI.cls := hown
  have hl : lv_has ls 5 [(0, .ref S0), (1, .int (iI b)), (2, .int (iI up)), (3, .ref O0)] := hl
  refine lv_aload_n hx hb dL_minutesFor_0 rfl (lv_at hl 3 rfl) ?_
  refine li_const hx hb dL_minutesFor_1 ?_
  refine lv_aload_n hx hb dL_minutesFor_2 rfl (lv_at hl 0 rfl) ?_
  refine lv_iload_n hx hb dL_minutesFor_3 rfl (lv_at hl 1 rfl) ?_
  refine lv_iload_n hx hb dL_minutesFor_4 rfl (lv_at hl 2 rfl) ?_
  refine cl_i0 (isC := [0, 1, 2, 3, 4, 5, 6, 7, 8, 9, 10, 11, 12, 13, 14, 15, 16, 17, 18, 19, 20, 21, 22]) (isR := [23]) (isN := [1, 2, 3, 4, 5, 6, 7, 8, 9, 10, 11, 12, 13, 14, 15, 16, 17, 18, 19, 20, 21, 22, 23, 0]) (wr := cOu cJ ov O0) (wn := cLs   S0 L0 L0t ++ cLa   L0 W0 G0 B0 P0 ++ cWa cI n L a gd w W0 W1 ++ cGa cI cZ op tn G0 G1 G2 ++ cFl cI cnt ln dr pl B0 B1 B2 B3 ++ cRp  rp P0 ++ cLa   L0t W0t G0t B0t P0t ++ cWa cI n L a gd ((brM n L a cnt ln dr b up 7 pl w).2.1) W0t W1t ++ cGa cI cZ (zrZ opt 7) (zrZ tnt 7) G0t G1t G2t ++ cFl cI cnt ln dr ((brM n L a cnt ln dr b up 7 pl w).1) B0t B1t B2t B3t ++ cRp  (rpF rpt (brM n L a cnt ln dr b up 7 pl w).2.2) P0t ++ cOu cJ ov O0) (As := [.int (iI b), .int (iI up)]) (rest := [.int (iI 0), .ref O0]) (r := if (brM n L a cnt ln dr b up 7 pl w).2.2.2.2 = -1 then (brM n L a cnt ln dr b up 7 pl w).2.1.2.2.1 - w.2.2.1 else -1) (ci := 5) (q0 := 0) ⟨hx, hb, hml, hown, hts⟩ (c_X5_minutesFor_ok n L a gd w op tn cnt ln dr pl rp gdt wt opt tnt cntt lnt drt plt rpt S0 L0 W0 W1 G0 G1 G2 B0 B1 B2 B3 P0 L0t W0t W1t G0t G1t G2t B0t B1t B2t B3t P0t b up (by first | assumption | omega) (by first | assumption | omega) (by first | assumption | omega) (by first | assumption | omega) (by first | assumption | omega) (by first | assumption | omega) (by first | assumption | omega) (by first | assumption | omega) (by first | assumption | omega) (by first | assumption | omega) (by first | assumption | omega)) (cwV 2 hts gL_minutesFor_X5_minutesFor rfl rfl rfl (by decide +kernel) ⟨Nat.le_of_ble_eq_true rfl, Nat.le_of_ble_eq_true rfl⟩) hK hNW hP hD hS hA rfl rfl rfl rfl (by decide) rfl rfl rfl rfl rfl rfl hl.1 rfl (Nat.le_of_ble_eq_true rfl) dL_minutesFor_5 ⟨Nat.zero_le _, Nat.zero_le _⟩ (fun H locs hP hD hS => ?_)
  refine lv_i2l (v := (iI (if (brM n L a cnt ln dr b up 7 pl w).2.2.2.2 = -1 then (brM n L a cnt ln dr b up 7 pl w).2.1.2.2.1 - w.2.2.1 else -1)).toInt64) hx hb dL_minutesFor_8 rfl ?_
  refine li_last (q0 := 23) (t0 := 2) (w2 := cLs   S0 L0 L0t ++ cLa   L0 W0 G0 B0 P0 ++ cWa cI n L a gd w W0 W1 ++ cGa cI cZ op tn G0 G1 G2 ++ cFl cI cnt ln dr pl B0 B1 B2 B3 ++ cRp  rp P0 ++ cLa   L0t W0t G0t B0t P0t ++ cWa cI n L a gd ((brM n L a cnt ln dr b up 7 pl w).2.1) W0t W1t ++ cGa cI cZ (zrZ opt 7) (zrZ tnt 7) G0t G1t G2t ++ cFl cI cnt ln dr ((brM n L a cnt ln dr b up 7 pl w).1) B0t B1t B2t B3t ++ cRp  (rpF rpt (brM n L a cnt ln dr b up 7 pl w).2.2) P0t ++ cOu cJ (vp_updL ov 0 ((iI (if (brM n L a cnt ln dr b up 7 pl w).2.2.2.2 = -1 then (brM n L a cnt ln dr b up 7 pl w).2.1.2.2.1 - w.2.2.1 else -1)).toInt64)) O0) hx hb hK hP hD hS rfl rfl dL_minutesFor_9 rfl (fun H locs hP hD hS => ?_)
  refine lv_goto (tgt := 17) hx hb dL_minutesFor_10 (by decide) ?_
  refine li_const hx hb dL_minutesFor_17 ?_
  refine li_wide (k := 1) (n := 6) (Nat.le_of_ble_eq_true rfl) (Nat.le_of_ble_eq_true rfl) ?_
  exact li_iret () hx hb hr hlocks hK hP hD hS dL_minutesFor_18 hQ rfl (congrArg iI (rfl))

set_option maxRecDepth 100000 in
set_option maxHeartbeats 4000000 in
theorem c_L_minutesFor_no {l : Launch} {D : va_G} {cI cZ cJ : ClassId} (hl0 : l.stackTraces = false) (n : Int) (L : Int) (a : Int) (gd : Int) (w : Wt) (op : Int → Int) (tn : Int → Int) (cnt : Int) (ln : Int → Int) (dr : Int → Int) (pl : Int → Int) (rp : Rt) (gdt : Int) (wt : Wt) (opt : Int → Int) (tnt : Int → Int) (cntt : Int) (lnt : Int → Int) (drt : Int → Int) (plt : Int → Int) (rpt : Rt) (ov : Nat → Int64) (S0 L0 W0 W1 G0 G1 G2 B0 B1 B2 B3 P0 L0t W0t W1t G0t G1t G2t B0t B1t B2t B3t P0t O0 : Nat) (b : Int) (up : Int) (hcnt : 0 ≤ cnt ∧ cnt ≤ 10) (i_b : -2147483648 ≤ b ∧ b < 2147483648) (hv : ¬ (0 ≤ b ∧ b ≤ cnt - 1)) (h01up : up = 0 ∨ up = 1) : CW l yL_minutesFor wsL_minutesFor 26 [.ref S0, .int (iI b), .int (iI up), .ref O0] D (ty3 cI cZ cJ) (cLs   S0 L0 L0t ++ cLa   L0 W0 G0 B0 P0 ++ cWa cI n L a gd w W0 W1 ++ cGa cI cZ op tn G0 G1 G2 ++ cFl cI cnt ln dr pl B0 B1 B2 B3 ++ cRp  rp P0 ++ cLa   L0t W0t G0t B0t P0t ++ cWa cI n L a gdt wt W0t W1t ++ cGa cI cZ opt tnt G0t G1t G2t ++ cFl cI cntt lnt drt plt B0t B1t B2t B3t ++ cRp  rpt P0t ++ cOu cJ ov O0) (1) (cLs   S0 L0 L0t ++ cLa   L0 W0 G0 B0 P0 ++ cWa cI n L a gd w W0 W1 ++ cGa cI cZ op tn G0 G1 G2 ++ cFl cI cnt ln dr pl B0 B1 B2 B3 ++ cRp  rp P0 ++ cLa   L0t W0t G0t B0t P0t ++ cWa cI n L a gdt wt W0t W1t ++ cGa cI cZ opt tnt G0t G1t G2t ++ cFl cI cntt lnt drt plt B0t B1t B2t B3t ++ cRp  rpt P0t ++ cOu cJ ov O0) := by
  refine ct_w (hh := [(0, 10, 13, 13)]) (plainFor_of_name (by decide)) rfl (Nat.le_of_ble_eq_true rfl) ?_
  intro p e s mI args below meth c_0 ls A hx hb hr hml hts hown hlocks htab hA hP hK hD hNW hXP hNC hS hl Q hQ
  have hown : s.vm.findClass RL = some mI.cls := hown
  have hl : lv_has ls 5 [(0, .ref S0), (1, .int (iI b)), (2, .int (iI up)), (3, .ref O0)] := hl
  have hck_13 := hts (.classLink RL 13 "java/lang/IndexOutOfBoundsException") (by decide +kernel)
  refine lv_aload_n hx hb dL_minutesFor_0 rfl (lv_at hl 3 rfl) ?_
  refine li_const hx hb dL_minutesFor_1 ?_
  refine lv_aload_n hx hb dL_minutesFor_2 rfl (lv_at hl 0 rfl) ?_
  refine lv_iload_n hx hb dL_minutesFor_3 rfl (lv_at hl 1 rfl) ?_
  refine lv_iload_n hx hb dL_minutesFor_4 rfl (lv_at hl 2 rfl) ?_
  refine cl_t (isC := [0, 1, 2, 3, 4, 5, 6, 7, 8, 9, 10, 11, 12, 13, 14, 15, 16, 17, 18, 19, 20, 21, 22]) (isR := [23]) (isN := [1, 2, 3, 4, 5, 6, 7, 8, 9, 10, 11, 12, 13, 14, 15, 16, 17, 18, 19, 20, 21, 22, 23, 0]) (wr := cOu cJ ov O0) (As := [.int (iI b), .int (iI up)]) (rest := [.int (iI 0), .ref O0]) (ci := 5) (q0 := 0) ⟨hx, hb, hml, hown, hts⟩ (c_X5_minutesFor_no hl0 n L a gd w op tn cnt ln dr pl rp gdt wt opt tnt cntt lnt drt plt rpt S0 L0 W0 W1 G0 G1 G2 B0 B1 B2 B3 P0 L0t W0t W1t G0t G1t G2t B0t B1t B2t B3t P0t b up (by first | assumption | omega) (by first | assumption | omega) (by first | assumption | omega)) (cwV 2 hts gL_minutesFor_X5_minutesFor rfl rfl rfl (by decide +kernel) ⟨Nat.le_of_ble_eq_true rfl, Nat.le_of_ble_eq_true rfl⟩) hK hNW hXP hP hD hS hA rfl rfl rfl rfl (by decide) rfl rfl rfl rfl rfl rfl hl.1 rfl (Nat.le_of_ble_eq_true rfl) dL_minutesFor_5 ⟨Nat.le_of_ble_eq_true rfl, Nat.le_of_ble_eq_true rfl⟩ (fun ce q9 H locs hP hD hS h1 h2 h3 => ?_)
  refine vx_catch (own := RL) (name := "java/lang/IndexOutOfBoundsException") hown [] ⟨0, 10, 13, 13⟩ [] (by rw [htab]; rfl) (fun z hz => nomatch hz) (by decide) (by decide) hck_13 (hXP.1.use _ (by decide +kernel)) h1 h2 h3 ?_
  show W p l e (rK 26 1 6) s mI args below meth c_0 H locs (0 + 1) (0 + 6) Q (F0 mI 13 ls [.ref q9])
  refine lv_astore (lv' := [(4, .ref q9), (0, .ref S0), (1, .int (iI b)), (2, .int (iI up)), (3, .ref O0)]) hx hb dL_minutesFor_13 hl (by decide) rfl (fun ls hl => ?_)
  refine li_const hx hb dL_minutesFor_15 ?_
  refine li_wide (k := 1) (n := 6) (Nat.le_of_ble_eq_true rfl) (Nat.le_of_ble_eq_true rfl) ?_
  exact li_iret () hx hb hr hlocks hK hP hD hS dL_minutesFor_16 hQ rfl (congrArg iI (rfl))

set_option maxRecDepth 100000 in
set_option maxHeartbeats 4000000 in
theorem c_L_waterFor_ok {l : Launch} {D : va_G} {cI cZ cJ : ClassId} (n : Int) (L : Int) (a : Int) (gd : Int) (w : Wt) (op : Int → Int) (tn : Int → Int) (cnt : Int) (ln : Int → Int) (dr : Int → Int) (pl : Int → Int) (rp : Rt) (gdt : Int) (wt : Wt) (opt : Int → Int) (tnt : Int → Int) (cntt : Int) (lnt : Int → Int) (drt : Int → Int) (plt : Int → Int) (rpt : Rt) (ov : Nat → Int64) (S0 L0 W0 W1 G0 G1 G2 B0 B1 B2 B3 P0 L0t W0t W1t G0t G1t G2t B0t B1t B2t B3t P0t O0 : Nat) (b : Int) (up : Int) (hn : 1 ≤ n ∧ n ≤ 6) (hL : 5 ≤ L ∧ L ≤ 40) (ha : 1 ≤ a ∧ a ≤ 50) (hw : WI n L a w) (hcnt : 0 ≤ cnt ∧ cnt ≤ 10) (hln : lnB ln) (hdr : lnB dr) (hpi : plI n pl) (hup : up = 0 ∨ up = 1) (hv : 0 ≤ b ∧ b ≤ cnt - 1) : CW l yL_waterFor wsL_waterFor 26 [.ref S0, .int (iI b), .int (iI up), .ref O0] D (ty3 cI cZ cJ) (cLs   S0 L0 L0t ++ cLa   L0 W0 G0 B0 P0 ++ cWa cI n L a gd w W0 W1 ++ cGa cI cZ op tn G0 G1 G2 ++ cFl cI cnt ln dr pl B0 B1 B2 B3 ++ cRp  rp P0 ++ cLa   L0t W0t G0t B0t P0t ++ cWa cI n L a gdt wt W0t W1t ++ cGa cI cZ opt tnt G0t G1t G2t ++ cFl cI cntt lnt drt plt B0t B1t B2t B3t ++ cRp  rpt P0t ++ cOu cJ ov O0) (0) (cLs   S0 L0 L0t ++ cLa   L0 W0 G0 B0 P0 ++ cWa cI n L a gd w W0 W1 ++ cGa cI cZ op tn G0 G1 G2 ++ cFl cI cnt ln dr pl B0 B1 B2 B3 ++ cRp  rp P0 ++ cLa   L0t W0t G0t B0t P0t ++ cWa cI n L a gd ((brM n L a cnt ln dr b up 7 pl w).2.1) W0t W1t ++ cGa cI cZ (zrZ opt 7) (zrZ tnt 7) G0t G1t G2t ++ cFl cI cnt ln dr ((brM n L a cnt ln dr b up 7 pl w).1) B0t B1t B2t B3t ++ cRp  (rpF rpt (brM n L a cnt ln dr b up 7 pl w).2.2) P0t ++ cOu cJ (vp_updL ov 0 (iI (w.1 - (brM n L a cnt ln dr b up 7 pl w).2.1.1)).toInt64) O0) := by
  refine ct_w (hh := [(0, 10, 13, 13)]) (plainFor_of_name (by decide)) rfl (Nat.le_of_ble_eq_true rfl) ?_
  intro p e s mI args below meth c_0 ls A hx hb hr hml hts hown hlocks htab hA hP hK hD hNW hXP hNC hS hl Q hQ
  have hown : s.vm.findClass RL = some mI.cls := hown
  have hl : lv_has ls 5 [(0, .ref S0), (1, .int (iI b)), (2, .int (iI up)), (3, .ref O0)] := hl
  refine lv_aload_n hx hb dL_waterFor_0 rfl (lv_at hl 3 rfl) ?_
  refine li_const hx hb dL_waterFor_1 ?_
  refine lv_aload_n hx hb dL_waterFor_2 rfl (lv_at hl 0 rfl) ?_
  refine lv_iload_n hx hb dL_waterFor_3 rfl (lv_at hl 1 rfl) ?_
  refine lv_iload_n hx hb dL_waterFor_4 rfl (lv_at hl 2 rfl) ?_
  refine cl_i0 (isC := [0, 1, 2, 3, 4, 5, 6, 7, 8, 9, 10, 11, 12, 13, 14, 15, 16, 17, 18, 19, 20, 21, 22]) (isR := [23]) (isN := [1, 2, 3, 4, 5, 6, 7, 8, 9, 10, 11, 12, 13, 14, 15, 16, 17, 18, 19, 20, 21, 22, 23, 0]) (wr := cOu cJ ov O0) (wn := cLs   S0 L0 L0t ++ cLa   L0 W0 G0 B0 P0 ++ cWa cI n L a gd w W0 W1 ++ cGa cI cZ op tn G0 G1 G2 ++ cFl cI cnt ln dr pl B0 B1 B2 B3 ++ cRp  rp P0 ++ cLa   L0t W0t G0t B0t P0t ++ cWa cI n L a gd ((brM n L a cnt ln dr b up 7 pl w).2.1) W0t W1t ++ cGa cI cZ (zrZ opt 7) (zrZ tnt 7) G0t G1t G2t ++ cFl cI cnt ln dr ((brM n L a cnt ln dr b up 7 pl w).1) B0t B1t B2t B3t ++ cRp  (rpF rpt (brM n L a cnt ln dr b up 7 pl w).2.2) P0t ++ cOu cJ ov O0) (As := [.int (iI b), .int (iI up)]) (rest := [.int (iI 0), .ref O0]) (r := w.1 - (brM n L a cnt ln dr b up 7 pl w).2.1.1) (ci := 5) (q0 := 0) ⟨hx, hb, hml, hown, hts⟩ (c_X5_waterFor_ok n L a gd w op tn cnt ln dr pl rp gdt wt opt tnt cntt lnt drt plt rpt S0 L0 W0 W1 G0 G1 G2 B0 B1 B2 B3 P0 L0t W0t W1t G0t G1t G2t B0t B1t B2t B3t P0t b up (by first | assumption | omega) (by first | assumption | omega) (by first | assumption | omega) (by first | assumption | omega) (by first | assumption | omega) (by first | assumption | omega) (by first | assumption | omega) (by first | assumption | omega) (by first | assumption | omega) (by first | assumption | omega)) (cwV 2 hts gL_waterFor_X5_waterFor rfl rfl rfl (by decide +kernel) ⟨Nat.le_of_ble_eq_true rfl, Nat.le_of_ble_eq_true rfl⟩) hK hNW hP hD hS hA rfl rfl rfl rfl (by decide) rfl rfl rfl rfl rfl rfl hl.1 rfl (Nat.le_of_ble_eq_true rfl) dL_waterFor_5 ⟨Nat.zero_le _, Nat.zero_le _⟩ (fun H locs hP hD hS => ?_)
  refine lv_i2l (v := (iI (w.1 - (brM n L a cnt ln dr b up 7 pl w).2.1.1)).toInt64) hx hb dL_waterFor_8 rfl ?_
  refine li_last (q0 := 23) (t0 := 2) (w2 := cLs   S0 L0 L0t ++ cLa   L0 W0 G0 B0 P0 ++ cWa cI n L a gd w W0 W1 ++ cGa cI cZ op tn G0 G1 G2 ++ cFl cI cnt ln dr pl B0 B1 B2 B3 ++ cRp  rp P0 ++ cLa   L0t W0t G0t B0t P0t ++ cWa cI n L a gd ((brM n L a cnt ln dr b up 7 pl w).2.1) W0t W1t ++ cGa cI cZ (zrZ opt 7) (zrZ tnt 7) G0t G1t G2t ++ cFl cI cnt ln dr ((brM n L a cnt ln dr b up 7 pl w).1) B0t B1t B2t B3t ++ cRp  (rpF rpt (brM n L a cnt ln dr b up 7 pl w).2.2) P0t ++ cOu cJ (vp_updL ov 0 ((iI (w.1 - (brM n L a cnt ln dr b up 7 pl w).2.1.1)).toInt64)) O0) hx hb hK hP hD hS rfl rfl dL_waterFor_9 rfl (fun H locs hP hD hS => ?_)
  refine lv_goto (tgt := 17) hx hb dL_waterFor_10 (by decide) ?_
  refine li_const hx hb dL_waterFor_17 ?_
  refine li_wide (k := 1) (n := 6) (Nat.le_of_ble_eq_true rfl) (Nat.le_of_ble_eq_true rfl) ?_
  exact li_iret () hx hb hr hlocks hK hP hD hS dL_waterFor_18 hQ rfl (congrArg iI (rfl))

set_option maxRecDepth 100000 in
set_option maxHeartbeats 4000000 in
theorem c_L_waterFor_no {l : Launch} {D : va_G} {cI cZ cJ : ClassId} (hl0 : l.stackTraces = false) (n : Int) (L : Int) (a : Int) (gd : Int) (w : Wt) (op : Int → Int) (tn : Int → Int) (cnt : Int) (ln : Int → Int) (dr : Int → Int) (pl : Int → Int) (rp : Rt) (gdt : Int) (wt : Wt) (opt : Int → Int) (tnt : Int → Int) (cntt : Int) (lnt : Int → Int) (drt : Int → Int) (plt : Int → Int) (rpt : Rt) (ov : Nat → Int64) (S0 L0 W0 W1 G0 G1 G2 B0 B1 B2 B3 P0 L0t W0t W1t G0t G1t G2t B0t B1t B2t B3t P0t O0 : Nat) (b : Int) (up : Int) (hcnt : 0 ≤ cnt ∧ cnt ≤ 10) (i_b : -2147483648 ≤ b ∧ b < 2147483648) (hv : ¬ (0 ≤ b ∧ b ≤ cnt - 1)) (h01up : up = 0 ∨ up = 1) : CW l yL_waterFor wsL_waterFor 26 [.ref S0, .int (iI b), .int (iI up), .ref O0] D (ty3 cI cZ cJ) (cLs   S0 L0 L0t ++ cLa   L0 W0 G0 B0 P0 ++ cWa cI n L a gd w W0 W1 ++ cGa cI cZ op tn G0 G1 G2 ++ cFl cI cnt ln dr pl B0 B1 B2 B3 ++ cRp  rp P0 ++ cLa   L0t W0t G0t B0t P0t ++ cWa cI n L a gdt wt W0t W1t ++ cGa cI cZ opt tnt G0t G1t G2t ++ cFl cI cntt lnt drt plt B0t B1t B2t B3t ++ cRp  rpt P0t ++ cOu cJ ov O0) (1) (cLs   S0 L0 L0t ++ cLa   L0 W0 G0 B0 P0 ++ cWa cI n L a gd w W0 W1 ++ cGa cI cZ op tn G0 G1 G2 ++ cFl cI cnt ln dr pl B0 B1 B2 B3 ++ cRp  rp P0 ++ cLa   L0t W0t G0t B0t P0t ++ cWa cI n L a gdt wt W0t W1t ++ cGa cI cZ opt tnt G0t G1t G2t ++ cFl cI cntt lnt drt plt B0t B1t B2t B3t ++ cRp  rpt P0t ++ cOu cJ ov O0) := by
  refine ct_w (hh := [(0, 10, 13, 13)]) (plainFor_of_name (by decide)) rfl (Nat.le_of_ble_eq_true rfl) ?_
  intro p e s mI args below meth c_0 ls A hx hb hr hml hts hown hlocks htab hA hP hK hD hNW hXP hNC hS hl Q hQ
  have hown : s.vm.findClass RL = some mI.cls := hown
  have hl : lv_has ls 5 [(0, .ref S0), (1, .int (iI b)), (2, .int (iI up)), (3, .ref O0)] := hl
  have hck_13 := hts (.classLink RL 13 "java/lang/IndexOutOfBoundsException") (by decide +kernel)
  refine lv_aload_n hx hb dL_waterFor_0 rfl (lv_at hl 3 rfl) ?_
  refine li_const hx hb dL_waterFor_1 ?_
  refine lv_aload_n hx hb dL_waterFor_2 rfl (lv_at hl 0 rfl) ?_
  refine lv_iload_n hx hb dL_waterFor_3 rfl (lv_at hl 1 rfl) ?_
  refine lv_iload_n hx hb dL_waterFor_4 rfl (lv_at hl 2 rfl) ?_
  refine cl_t (isC := [0, 1, 2, 3, 4, 5, 6, 7, 8, 9, 10, 11, 12, 13, 14, 15, 16, 17, 18, 19, 20, 21, 22]) (isR := [23]) (isN := [1, 2, 3, 4, 5, 6, 7, 8, 9, 10, 11, 12, 13, 14, 15, 16, 17, 18, 19, 20, 21, 22, 23, 0]) (wr := cOu cJ ov O0) (As := [.int (iI b), .int (iI up)]) (rest := [.int (iI 0), .ref O0]) (ci := 5) (q0 := 0) ⟨hx, hb, hml, hown, hts⟩ (c_X5_waterFor_no hl0 n L a gd w op tn cnt ln dr pl rp gdt wt opt tnt cntt lnt drt plt rpt S0 L0 W0 W1 G0 G1 G2 B0 B1 B2 B3 P0 L0t W0t W1t G0t G1t G2t B0t B1t B2t B3t P0t b up (by first | assumption | omega) (by first | assumption | omega) (by first | assumption | omega)) (cwV 2 hts gL_waterFor_X5_waterFor rfl rfl rfl (by decide +kernel) ⟨Nat.le_of_ble_eq_true rfl, Nat.le_of_ble_eq_true rfl⟩) hK hNW hXP hP hD hS hA rfl rfl rfl rfl (by decide) rfl rfl rfl rfl rfl rfl hl.1 rfl (Nat.le_of_ble_eq_true rfl) dL_waterFor_5 ⟨Nat.le_of_ble_eq_true rfl, Nat.le_of_ble_eq_true rfl⟩ (fun ce q9 H locs hP hD hS h1 h2 h3 => ?_)
  refine vx_catch (own := RL) (name := "java/lang/IndexOutOfBoundsException") hown [] ⟨0, 10, 13, 13⟩ [] (by rw [htab]; rfl) (fun z hz => nomatch hz) (by decide) (by decide) hck_13 (hXP.1.use _ (by decide +kernel)) h1 h2 h3 ?_
  show W p l e (rK 26 1 6) s mI args below meth c_0 H locs (0 + 1) (0 + 6) Q (F0 mI 13 ls [.ref q9])
  refine lv_astore (lv' := [(4, .ref q9), (0, .ref S0), (1, .int (iI b)), (2, .int (iI up)), (3, .ref O0)]) hx hb dL_waterFor_13 hl (by decide) rfl (fun ls hl => ?_)
  refine li_const hx hb dL_waterFor_15 ?_
  refine li_wide (k := 1) (n := 6) (Nat.le_of_ble_eq_true rfl) (Nat.le_of_ble_eq_true rfl) ?_
  exact li_iret () hx hb hr hlocks hK hP hD hS dL_waterFor_16 hQ rfl (congrArg iI (rfl))
