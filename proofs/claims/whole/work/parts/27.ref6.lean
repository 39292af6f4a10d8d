set_option maxRecDepth 100000 in
set_option maxHeartbeats 4000000 in
theorem c_X6_isGateRight {l : Launch} {D : va_G} {cI cZ cJ : ClassId} (n : Int) (L : Int) (a : Int) (rn : Int) (sp : Int) (cnt : Int) (th : Int) (w : Wt) (op : Int → Int) (tn : Int → Int) (pl : Int → Int) (en : Int) (kd : Int → Int) (nb : Int → Int) (as : Int → Int) (ln : Int → Int) (dr : Int → Int) (M0 M1 M2 M3 M4 : Nat) (g : Int) (hn : 1 ≤ n ∧ n ≤ 6) (hL : 5 ≤ L ∧ L ≤ 40) (ha : 1 ≤ a ∧ a ≤ 50) (hw : WI n L a w) (hop : opB op) (hoz : ∀ g, n < g → op g = 0) (htn : tnB tn) (htz : ∀ g, n < g → tn g = 0) (hg : 0 ≤ g ∧ g ≤ n) (hgh : isO op g = true → hdA n L a w g = 0 ∧ beS tn g = false) : Di l yX6_isGateRight wsX6_isGateRight 6 [.ref M0, .int (iI g)] D (ty3 cI cZ cJ) (cMd cI n L a rn sp cnt th (rowF w op tn pl en kd nb) as ln dr M0 M1 M2 M3 M4) (1) (cMd cI n L a rn sp cnt th (rowF w op tn pl en kd nb) as ln dr M0 M1 M2 M3 M4) := by
  refine ct_i (plainFor_of_name (by decide)) rfl (Nat.le_of_ble_eq_true rfl) ?_
  intro p e s mI args below meth c_0 ls A hx hb hr hml hts hown hlocks hin hA hP hK hD hNW hS hl Q hQ
  have hown : s.vm.findClass RX6 = some mI.cls := hown
  have hl : lv_has ls 2 [(0, .ref M0), (1, .int (iI g))] := hl
  refine lv_aload_n hx hb dX6_isGateRight_0 rfl (lv_at hl 0 rfl) ?_
  refine lv_iload_n hx hb dX6_isGateRight_1 rfl (lv_at hl 1 rfl) ?_
  refine cl_i0 (isC := [0, 1, 2, 3, 4]) (isR := []) (isN := [0, 1, 2, 3, 4]) (wr := []) (wn := cMd cI n L a rn sp cnt th (rowF w op tn pl en kd nb) as ln dr M0 M1 M2 M3 M4) (As := [.int (iI g)]) (rest := []) (r := bz (isO op g = true)) (ci := 6) (q0 := 0) ⟨hx, hb, hml, hown, hts⟩ (c_X6_isOpenGate n L a rn sp cnt th w op tn pl en kd nb as ln dr M0 M1 M2 M3 M4 g (by first | assumption | omega) (by first | assumption | omega) (by first | assumption | omega) (by first | assumption | omega) (by first | assumption | omega) (by first | assumption | omega)) (cwV 1 hts gX6_isGateRight_X6_isOpenGate rfl rfl rfl (by decide +kernel) ⟨Nat.le_of_ble_eq_true rfl, Nat.le_of_ble_eq_true rfl⟩) hK hNW hP hD hS hA rfl rfl rfl rfl (by decide) rfl rfl rfl rfl rfl rfl hl.1 rfl (Nat.le_of_ble_eq_true rfl) dX6_isGateRight_2 ⟨Nat.zero_le _, Nat.zero_le _⟩ (fun H locs hP hD hS => ?_)
  refine li_ifb_eq (tgt := 44) hx hb dX6_isGateRight_5 (by decide) (fun c_5 => ?_) (fun c_5 => ?_)
  · refine li_const hx hb dX6_isGateRight_44 ?_
    refine lv_goto (tgt := 49) hx hb dX6_isGateRight_45 (by decide) ?_
    exact li_zret () hx hb hr hlocks hK hP hD hS (by decide) dX6_isGateRight_49 hQ rfl (congrArg iI (rfl))
  · have hg9 := hgh (by assumption)
    have hs9 : ¬ 0 < tnA tn (g - 1) ∧ ¬ 0 < tnA tn g ∧ ¬ 0 < tnA tn (g + 1) := by
      have h8 := hg9.2
      unfold beS at h8
      simp only [Bool.or_eq_false_iff, decide_eq_false_iff_not] at h8
      exact ⟨h8.1.1, h8.1.2, h8.2⟩
    have hbo := hd_bo hn hL ha hw hg
    refine lv_aload_n hx hb dX6_isGateRight_8 rfl (lv_at hl 0 rfl) ?_
    refine lv_iload_n hx hb dX6_isGateRight_9 rfl (lv_at hl 1 rfl) ?_
    refine cl_i0 (isC := [0, 1, 2, 3, 4]) (isR := []) (isN := [0, 1, 2, 3, 4]) (wr := []) (wn := cMd cI n L a rn sp cnt th (rowF w op tn pl en kd nb) as ln dr M0 M1 M2 M3 M4) (As := [.int (iI g)]) (rest := []) (r := hdA n L a w g) (ci := 6) (q0 := 0) ⟨hx, hb, hml, hown, hts⟩ (c_X6_head n L a rn sp cnt th w op tn pl en kd nb as ln dr M0 M1 M2 M3 M4 g (by first | assumption | omega) (by first | assumption | omega) (by first | assumption | omega) (by first | assumption | omega) (by first | assumption | omega)) (cwV 1 hts gX6_isGateRight_X6_head rfl rfl rfl (by decide +kernel) ⟨Nat.le_of_ble_eq_true rfl, Nat.le_of_ble_eq_true rfl⟩) hK hNW hP hD hS hA rfl rfl rfl rfl (by decide) rfl rfl rfl rfl rfl rfl hl.1 rfl (Nat.le_of_ble_eq_true rfl) dX6_isGateRight_10 ⟨Nat.zero_le _, Nat.zero_le _⟩ (fun H locs hP hD hS => ?_)
    refine li_if_ne_f (tgt := 48) hx hb dX6_isGateRight_13 (by decide) (ib_i (by omega) (by omega)) (by exact hg9.1) ?_
    refine lv_aload_n hx hb dX6_isGateRight_16 rfl (lv_at hl 0 rfl) ?_
    refine lv_iload_n hx hb dX6_isGateRight_17 rfl (lv_at hl 1 rfl) ?_
    refine cl_i0 (isC := [0, 1, 2, 3, 4]) (isR := []) (isN := [0, 1, 2, 3, 4]) (wr := []) (wn := cMd cI n L a rn sp cnt th (rowF w op tn pl en kd nb) as ln dr M0 M1 M2 M3 M4) (As := [.int (iI g)]) (rest := []) (r := bz (0 < tnA tn g)) (ci := 6) (q0 := 0) ⟨hx, hb, hml, hown, hts⟩ (c_X6_isUp n L a rn sp cnt th w op tn pl en kd nb as ln dr M0 M1 M2 M3 M4 g (by first | assumption | omega) (by first | assumption | omega) (by first | assumption | omega) (by first | assumption | omega) (by first | assumption | omega) (by first | assumption | omega)) (cwV 1 hts gX6_isGateRight_X6_isUp rfl rfl rfl (by decide +kernel) ⟨Nat.le_of_ble_eq_true rfl, Nat.le_of_ble_eq_true rfl⟩) hK hNW hP hD hS hA rfl rfl rfl rfl (by decide) rfl rfl rfl rfl rfl rfl hl.1 rfl (Nat.le_of_ble_eq_true rfl) dX6_isGateRight_18 ⟨Nat.zero_le _, Nat.zero_le _⟩ (fun H locs hP hD hS => ?_)
    refine li_top (b := 0) (bz_f (by exact hs9.2.1)) ?_
    refine li_if_ne_f (tgt := 48) hx hb dX6_isGateRight_21 (by decide) (by decide) (by decide) ?_
    refine lv_aload_n hx hb dX6_isGateRight_24 rfl (lv_at hl 0 rfl) ?_
    refine lv_iload_n hx hb dX6_isGateRight_25 rfl (lv_at hl 1 rfl) ?_
    refine li_const hx hb dX6_isGateRight_26 ?_
    refine li_sub hx hb dX6_isGateRight_27 ?_
    refine cl_i0 (isC := [0, 1, 2, 3, 4]) (isR := []) (isN := [0, 1, 2, 3, 4]) (wr := []) (wn := cMd cI n L a rn sp cnt th (rowF w op tn pl en kd nb) as ln dr M0 M1 M2 M3 M4) (As := [.int (iI (g - 1))]) (rest := []) (r := bz (0 < tnA tn (g - 1))) (ci := 6) (q0 := 0) ⟨hx, hb, hml, hown, hts⟩ (c_X6_isUp n L a rn sp cnt th w op tn pl en kd nb as ln dr M0 M1 M2 M3 M4 (g - 1) (by first | assumption | omega) (by first | assumption | omega) (by first | assumption | omega) (by first | assumption | omega) (by first | assumption | omega) (by first | assumption | omega)) (cwV 1 hts gX6_isGateRight_X6_isUp rfl rfl rfl (by decide +kernel) ⟨Nat.le_of_ble_eq_true rfl, Nat.le_of_ble_eq_true rfl⟩) hK hNW hP hD hS hA rfl rfl rfl rfl (by decide) rfl rfl rfl rfl rfl rfl hl.1 rfl (Nat.le_of_ble_eq_true rfl) dX6_isGateRight_28 ⟨Nat.zero_le _, Nat.zero_le _⟩ (fun H locs hP hD hS => ?_)
    refine li_top (b := 0) (bz_f (by exact hs9.1)) ?_
    refine li_if_ne_f (tgt := 48) hx hb dX6_isGateRight_31 (by decide) (by decide) (by decide) ?_
    refine lv_aload_n hx hb dX6_isGateRight_34 rfl (lv_at hl 0 rfl) ?_
    refine lv_iload_n hx hb dX6_isGateRight_35 rfl (lv_at hl 1 rfl) ?_
    refine li_const hx hb dX6_isGateRight_36 ?_
    refine li_add hx hb dX6_isGateRight_37 ?_
    refine cl_i0 (isC := [0, 1, 2, 3, 4]) (isR := []) (isN := [0, 1, 2, 3, 4]) (wr := []) (wn := cMd cI n L a rn sp cnt th (rowF w op tn pl en kd nb) as ln dr M0 M1 M2 M3 M4) (As := [.int (iI (g + 1))]) (rest := []) (r := bz (0 < tnA tn (g + 1))) (ci := 6) (q0 := 0) ⟨hx, hb, hml, hown, hts⟩ (c_X6_isUp n L a rn sp cnt th w op tn pl en kd nb as ln dr M0 M1 M2 M3 M4 (g + 1) (by first | assumption | omega) (by first | assumption | omega) (by first | assumption | omega) (by first | assumption | omega) (by first | assumption | omega) (by first | assumption | omega)) (cwV 1 hts gX6_isGateRight_X6_isUp rfl rfl rfl (by decide +kernel) ⟨Nat.le_of_ble_eq_true rfl, Nat.le_of_ble_eq_true rfl⟩) hK hNW hP hD hS hA rfl rfl rfl rfl (by decide) rfl rfl rfl rfl rfl rfl hl.1 rfl (Nat.le_of_ble_eq_true rfl) dX6_isGateRight_38 ⟨Nat.zero_le _, Nat.zero_le _⟩ (fun H locs hP hD hS => ?_)
    refine li_top (b := 0) (bz_f (by exact hs9.2.2)) ?_
    refine li_if_ne_f (tgt := 48) hx hb dX6_isGateRight_41 (by decide) (by decide) (by decide) ?_
    refine li_const hx hb dX6_isGateRight_44 ?_
    refine lv_goto (tgt := 49) hx hb dX6_isGateRight_45 (by decide) ?_
    exact li_zret () hx hb hr hlocks hK hP hD hS (by decide) dX6_isGateRight_49 hQ rfl (congrArg iI (rfl))

set_option maxRecDepth 100000 in
set_option maxHeartbeats 4000000 in
theorem c_X6_moveObstacle_no {l : Launch} {D : va_G} {cI cZ cJ : ClassId} (n : Int) (L : Int) (a : Int) (rn : Int) (sp : Int) (cnt : Int) (th : Int) (w : Wt) (op : Int → Int) (tn : Int → Int) (pl : Int → Int) (en : Int) (kd : Int → Int) (nb : Int → Int) (as : Int → Int) (ln : Int → Int) (dr : Int → Int) (M0 M1 M2 M3 M4 : Nat) (b : Int) (up : Int) (hn : 1 ≤ n ∧ n ≤ 6) (hL : 5 ≤ L ∧ L ≤ 40) (ha : 1 ≤ a ∧ a ≤ 50) (hw : WI n L a w) (hop : opB op) (hoz : ∀ g, n < g → op g = 0) (hcnt : 0 ≤ cnt ∧ cnt ≤ 10) (hln : lnB ln) (hdr : lnB dr) (hpi : plI n pl) (hup : up = 0 ∨ up = 1) (i_b : -2147483648 ≤ b ∧ b < 2147483648) (hv : ¬ (0 ≤ b ∧ b ≤ cnt - 1)) : Di l yX6_moveObstacle wsX6_moveObstacle 25 [.ref M0, .int (iI b), .int (iI up)] D (ty3 cI cZ cJ) (cMd cI n L a rn sp cnt th (rowF w op tn pl en kd nb) as ln dr M0 M1 M2 M3 M4) (0) (cMd cI n L a rn sp cnt 1 (rowF w op tn pl en kd nb) as ln dr M0 M1 M2 M3 M4) := by
  refine ct_i (plainFor_of_name (by decide)) rfl (Nat.le_of_ble_eq_true rfl) ?_
  intro p e s mI args below meth c_0 ls A hx hb hr hml hts hown hlocks hin hA hP hK hD hNW hS hl Q hQ
  have hown : s.vm.findClass RX6 = some mI.cls := hown
  have hl : lv_has ls 3 [(0, .ref M0), (1, .int (iI b)), (2, .int (iI up))] := hl
  refine lv_aload_n hx hb dX6_moveObstacle_0 rfl (lv_at hl 0 rfl) ?_
  refine lv_aload_n hx hb dX6_moveObstacle_1 rfl (lv_at hl 0 rfl) ?_
  refine lv_iload_n hx hb dX6_moveObstacle_2 rfl (lv_at hl 1 rfl) ?_
  refine cl_i0 (isC := [0, 1, 2, 3, 4]) (isR := []) (isN := [0, 1, 2, 3, 4]) (wr := []) (wn := cMd cI n L a rn sp cnt th (rowF w op tn pl en kd nb) as ln dr M0 M1 M2 M3 M4) (As := [.int (iI b)]) (rest := [.ref M0]) (r := bz (0 ≤ b ∧ b ≤ cnt - 1)) (ci := 6) (q0 := 0) ⟨hx, hb, hml, hown, hts⟩ (c_X6_isBoat n L a rn sp cnt th w op tn pl en kd nb as ln dr M0 M1 M2 M3 M4 b (by first | assumption | omega) (by first | assumption | omega)) (cwV 1 hts gX6_moveObstacle_X6_isBoat rfl rfl rfl (by decide +kernel) ⟨Nat.le_of_ble_eq_true rfl, Nat.le_of_ble_eq_true rfl⟩) hK hNW hP hD hS hA rfl rfl rfl rfl (by decide) rfl rfl rfl rfl rfl rfl hl.1 rfl (Nat.le_of_ble_eq_true rfl) dX6_moveObstacle_3 ⟨Nat.zero_le _, Nat.zero_le _⟩ (fun H locs hP hD hS => ?_)
  refine li_top (b := 0) (bz_f (by exact hv)) ?_
  refine li_const hx hb dX6_moveObstacle_6 ?_
  refine li_const hx hb dX6_moveObstacle_7 ?_
  refine cl_i0 (isC := [0, 1, 2, 3, 4]) (isR := []) (isN := [0, 1, 2, 3, 4]) (wr := []) (wn := cMd cI n L a rn sp cnt (chA 0 1 1) (rowF w op tn pl en kd nb) as ln dr M0 M1 M2 M3 M4) (As := [.int (iI 0), .int (iI 1), .int (iI 1)]) (rest := []) (r := bz (chA 0 1 1 = 0)) (ci := 6) (q0 := 0) ⟨hx, hb, hml, hown, hts⟩ (c_X6_check n L a rn sp cnt th w op tn pl en kd nb as ln dr M0 M1 M2 M3 M4 0 1 1 (by first | decide | exact bz_01 _ | omega) (by first | decide | exact bz_01 _ | omega) (by first | decide | exact bz_01 _ | omega)) (cwV 3 hts gX6_moveObstacle_X6_check rfl rfl rfl (by decide +kernel) ⟨Nat.le_of_ble_eq_true rfl, Nat.le_of_ble_eq_true rfl⟩) hK hNW hP hD hS hA rfl rfl rfl rfl (by decide) rfl rfl rfl rfl rfl rfl hl.1 rfl (Nat.le_of_ble_eq_true rfl) dX6_moveObstacle_8 ⟨Nat.zero_le _, Nat.zero_le _⟩ (fun H locs hP hD hS => ?_)
  refine li_top (b := 0) rfl ?_
  refine li_if_eq_t (tgt := 23) hx hb dX6_moveObstacle_11 (by decide) (by decide) (by decide) ?_
  refine li_const hx hb dX6_moveObstacle_23 ?_
  exact li_iret () hx hb hr hlocks hK hP hD hS dX6_moveObstacle_24 hQ rfl (congrArg iI (rfl))

set_option maxRecDepth 100000 in
set_option maxHeartbeats 4000000 in
theorem c_X6_take_ok {l : Launch} {D : va_G} {cI cZ cJ : ClassId} (n : Int) (L : Int) (a : Int) (rn : Int) (sp : Int) (cnt : Int) (th : Int) (w : Wt) (op : Int → Int) (tn : Int → Int) (pl : Int → Int) (en : Int) (kd : Int → Int) (nb : Int → Int) (as : Int → Int) (ln : Int → Int) (dr : Int → Int) (M0 M1 M2 M3 M4 : Nat) (b : Int) (up : Int) (hn : 1 ≤ n ∧ n ≤ 6) (hL : 5 ≤ L ∧ L ≤ 40) (ha : 1 ≤ a ∧ a ≤ 50) (hw : WI n L a w) (hcnt : 0 ≤ cnt ∧ cnt ≤ 10) (hln : lnB ln) (hdr : lnB dr) (hpi : plI n pl) (hup : up = 0 ∨ up = 1) (i_b : -2147483648 ≤ b ∧ b < 2147483648) (hv : 0 ≤ b ∧ b ≤ cnt - 1) : Di l yX6_take wsX6_take 25 [.ref M0, .int (iI b), .int (iI up)] D (ty3 cI cZ cJ) (cMd cI n L a rn sp cnt th (rowF w op tn pl en kd nb) as ln dr M0 M1 M2 M3 M4) ((brM n L a cnt ln dr b up 7 pl w).1 b) (cMd cI n L a rn sp cnt 0 (rowF ((brM n L a cnt ln dr b up 7 pl w).2.1) (zrZ op (n + 1)) (zrZ tn (n + 1)) ((brM n L a cnt ln dr b up 7 pl w).1) (ten n (brM n L a cnt ln dr b up 7 pl w).2.2) (tkd n (brM n L a cnt ln dr b up 7 pl w).2.2 kd) (tnb n (brM n L a cnt ln dr b up 7 pl w).2.2 nb)) as ln dr M0 M1 M2 M3 M4) := by
  refine ct_i (plainFor_of_name (by decide)) rfl (Nat.le_of_ble_eq_true rfl) ?_
  intro p e s mI args below meth c_0 ls A hx hb hr hml hts hown hlocks hin hA hP hK hD hNW hS hl Q hQ
  have hown : s.vm.findClass RX6 = some mI.cls := hown
  have hl : lv_has ls 4 [(0, .ref M0), (1, .int (iI b)), (2, .int (iI up))] := hl
  have hin_X6 : ∀ w ∈ wsX60, w ∈ wsX6_take := by decide +kernel
  have hf_9 := hts (.fieldLink RX6 9 "LockStaircaseModel" "row" "[I") (by decide +kernel)
  refine lv_aload_n hx hb dX6_take_0 rfl (lv_at hl 0 rfl) ?_
  refine lv_aload_n hx hb dX6_take_1 rfl (lv_at hl 0 rfl) ?_
  refine lv_iload_n hx hb dX6_take_2 rfl (lv_at hl 1 rfl) ?_
  refine cl_i0 (isC := [0, 1, 2, 3, 4]) (isR := []) (isN := [0, 1, 2, 3, 4]) (wr := []) (wn := cMd cI n L a rn sp cnt th (rowF w op tn pl en kd nb) as ln dr M0 M1 M2 M3 M4) (As := [.int (iI b)]) (rest := [.ref M0]) (r := bz (0 ≤ b ∧ b ≤ cnt - 1)) (ci := 6) (q0 := 0) ⟨hx, hb, hml, hown, hts⟩ (c_X6_isBoat n L a rn sp cnt th w op tn pl en kd nb as ln dr M0 M1 M2 M3 M4 b (by first | assumption | omega) (by first | assumption | omega)) (cwV 1 hts gX6_take_X6_isBoat rfl rfl rfl (by decide +kernel) ⟨Nat.le_of_ble_eq_true rfl, Nat.le_of_ble_eq_true rfl⟩) hK hNW hP hD hS hA rfl rfl rfl rfl (by decide) rfl rfl rfl rfl rfl rfl hl.1 rfl (Nat.le_of_ble_eq_true rfl) dX6_take_3 ⟨Nat.zero_le _, Nat.zero_le _⟩ (fun H locs hP hD hS => ?_)
  refine li_top (b := 1) (bz_t (by exact hv)) ?_
  refine li_const hx hb dX6_take_6 ?_
  refine li_const hx hb dX6_take_7 ?_
  refine cl_i0 (isC := [0, 1, 2, 3, 4]) (isR := []) (isN := [0, 1, 2, 3, 4]) (wr := []) (wn := cMd cI n L a rn sp cnt (chA 1 1 1) (rowF w op tn pl en kd nb) as ln dr M0 M1 M2 M3 M4) (As := [.int (iI 1), .int (iI 1), .int (iI 1)]) (rest := []) (r := bz (chA 1 1 1 = 0)) (ci := 6) (q0 := 0) ⟨hx, hb, hml, hown, hts⟩ (c_X6_check n L a rn sp cnt th w op tn pl en kd nb as ln dr M0 M1 M2 M3 M4 1 1 1 (by first | decide | exact bz_01 _ | omega) (by first | decide | exact bz_01 _ | omega) (by first | decide | exact bz_01 _ | omega)) (cwV 3 hts gX6_take_X6_check rfl rfl rfl (by decide +kernel) ⟨Nat.le_of_ble_eq_true rfl, Nat.le_of_ble_eq_true rfl⟩) hK hNW hP hD hS hA rfl rfl rfl rfl (by decide) rfl rfl rfl rfl rfl rfl hl.1 rfl (Nat.le_of_ble_eq_true rfl) dX6_take_8 ⟨Nat.zero_le _, Nat.zero_le _⟩ (fun H locs hP hD hS => ?_)
  refine li_top (b := 1) rfl ?_
  refine li_if_ne_t (tgt := 16) hx hb dX6_take_11 (by decide) (by decide) (by decide) ?_
  refine lv_aload_n hx hb dX6_take_16 rfl (lv_at hl 0 rfl) ?_
  refine lv_iload_n hx hb dX6_take_17 rfl (lv_at hl 1 rfl) ?_
  refine lv_iload_n hx hb dX6_take_18 rfl (lv_at hl 2 rfl) ?_
  refine cl_i0 (isC := [0, 1, 2, 3, 4]) (isR := []) (isN := [0, 1, 2, 3, 4]) (wr := []) (wn := cMd cI n L a rn sp cnt 0 (rowF ((brM n L a cnt ln dr b up 7 pl w).2.1) (zrZ op (n + 1)) (zrZ tn (n + 1)) ((brM n L a cnt ln dr b up 7 pl w).1) (ten n (brM n L a cnt ln dr b up 7 pl w).2.2) (tkd n (brM n L a cnt ln dr b up 7 pl w).2.2 kd) (tnb n (brM n L a cnt ln dr b up 7 pl w).2.2 nb)) as ln dr M0 M1 M2 M3 M4) (As := [.int (iI b), .int (iI up)]) (rest := []) (r := bz ((brM n L a cnt ln dr b up 7 pl w).2.2.2.2 = -1)) (ci := 6) (q0 := 0) ⟨hx, hb, hml, hown, hts⟩ (c_X6_takeOne n L a rn sp cnt 0 w op tn pl en kd nb as ln dr M0 M1 M2 M3 M4 b up (by first | assumption | omega) (by first | assumption | omega) (by first | assumption | omega) (by first | assumption | omega) (by first | assumption | omega) (by first | assumption | omega) (by first | assumption | omega) (by first | assumption | omega) (by first | assumption | omega) (by first | assumption | omega)) (cwV 2 hts gX6_take_X6_takeOne rfl rfl rfl (by decide +kernel) ⟨Nat.le_of_ble_eq_true rfl, Nat.le_of_ble_eq_true rfl⟩) hK hNW hP hD hS hA rfl rfl rfl rfl (by decide) rfl rfl rfl rfl rfl rfl hl.1 rfl (Nat.le_of_ble_eq_true rfl) dX6_take_19 ⟨Nat.zero_le _, Nat.zero_le _⟩ (fun H locs hP hD hS => ?_)
  refine lv_istore_n (lv' := [(3, .int (iI (bz ((brM n L a cnt ln dr b up 7 pl w).2.2.2.2 = -1)))), (0, .ref M0), (1, .int (iI b)), (2, .int (iI up))]) hx hb dX6_take_22 rfl hl (by decide) rfl (fun ls hl => ?_)
  refine lv_aload_n hx hb dX6_take_23 rfl (lv_at hl 1 rfl) ?_
  refine li_get (ci := 6) (v := .ref M1) (C := RX6) (T := TX6) (N := 11) (q0 := 0) (k := 5) hx hb hts hin_X6 hown hK hP rfl rfl (by decide) hf_9 rfl rfl dX6_take_24 ?_
  refine li_bipush hx hb dX6_take_27 (by decide) ?_
  refine lv_iload_n hx hb dX6_take_29 rfl (lv_at hl 2 rfl) ?_
  refine li_add hx hb dX6_take_30 ?_
  refine li_iald (q0 := 1) (t0 := 0) (g := (rowF ((brM n L a cnt ln dr b up 7 pl w).2.1) (zrZ op (n + 1)) (zrZ tn (n + 1)) ((brM n L a cnt ln dr b up 7 pl w).1) (ten n (brM n L a cnt ln dr b up 7 pl w).2.2) (tkd n (brM n L a cnt ln dr b up 7 pl w).2.2 kd) (tnb n (brM n L a cnt ln dr b up 7 pl w).2.2 nb))) hx hb hK hP rfl rfl (by omega) (by omega) (ib_i (by omega) (by omega)) dX6_take_31 ?_
  refine li_top (b := ((brM n L a cnt ln dr b up 7 pl w).1) b) (rd_p (c := b) (by omega) (by omega) (by omega)) ?_
  exact li_iret () hx hb hr hlocks hK hP hD hS dX6_take_32 hQ rfl (congrArg iI (rfl))

set_option maxRecDepth 100000 in
set_option maxHeartbeats 4000000 in
theorem c_X6_take_no {l : Launch} {D : va_G} {cI cZ cJ : ClassId} (n : Int) (L : Int) (a : Int) (rn : Int) (sp : Int) (cnt : Int) (th : Int) (w : Wt) (op : Int → Int) (tn : Int → Int) (pl : Int → Int) (en : Int) (kd : Int → Int) (nb : Int → Int) (as : Int → Int) (ln : Int → Int) (dr : Int → Int) (M0 M1 M2 M3 M4 : Nat) (b : Int) (up : Int) (hn : 1 ≤ n ∧ n ≤ 6) (hL : 5 ≤ L ∧ L ≤ 40) (ha : 1 ≤ a ∧ a ≤ 50) (hw : WI n L a w) (hcnt : 0 ≤ cnt ∧ cnt ≤ 10) (hln : lnB ln) (hdr : lnB dr) (hpi : plI n pl) (hup : up = 0 ∨ up = 1) (i_b : -2147483648 ≤ b ∧ b < 2147483648) (hv : ¬ (0 ≤ b ∧ b ≤ cnt - 1)) : Di l yX6_take wsX6_take 25 [.ref M0, .int (iI b), .int (iI up)] D (ty3 cI cZ cJ) (cMd cI n L a rn sp cnt th (rowF w op tn pl en kd nb) as ln dr M0 M1 M2 M3 M4) (0) (cMd cI n L a rn sp cnt 1 (rowF w op tn pl en kd nb) as ln dr M0 M1 M2 M3 M4) := by
  refine ct_i (plainFor_of_name (by decide)) rfl (Nat.le_of_ble_eq_true rfl) ?_
  intro p e s mI args below meth c_0 ls A hx hb hr hml hts hown hlocks hin hA hP hK hD hNW hS hl Q hQ
  have hown : s.vm.findClass RX6 = some mI.cls := hown
  have hl : lv_has ls 4 [(0, .ref M0), (1, .int (iI b)), (2, .int (iI up))] := hl
  refine lv_aload_n hx hb dX6_take_0 rfl (lv_at hl 0 rfl) ?_
  refine lv_aload_n hx hb dX6_take_1 rfl (lv_at hl 0 rfl) ?_
  refine lv_iload_n hx hb dX6_take_2 rfl (lv_at hl 1 rfl) ?_
  refine cl_i0 (isC := [0, 1, 2, 3, 4]) (isR := []) (isN := [0, 1, 2, 3, 4]) (wr := []) (wn := cMd cI n L a rn sp cnt th (rowF w op tn pl en kd nb) as ln dr M0 M1 M2 M3 M4) (As := [.int (iI b)]) (rest := [.ref M0]) (r := bz (0 ≤ b ∧ b ≤ cnt - 1)) (ci := 6) (q0 := 0) ⟨hx, hb, hml, hown, hts⟩ (c_X6_isBoat n L a rn sp cnt th w op tn pl en kd nb as ln dr M0 M1 M2 M3 M4 b (by first | assumption | omega) (by first | assumption | omega)) (cwV 1 hts gX6_take_X6_isBoat rfl rfl rfl (by decide +kernel) ⟨Nat.le_of_ble_eq_true rfl, Nat.le_of_ble_eq_true rfl⟩) hK hNW hP hD hS hA rfl rfl rfl rfl (by decide) rfl rfl rfl rfl rfl rfl hl.1 rfl (Nat.le_of_ble_eq_true rfl) dX6_take_3 ⟨Nat.zero_le _, Nat.zero_le _⟩ (fun H locs hP hD hS => ?_)
  refine li_top (b := 0) (bz_f (by exact hv)) ?_
  refine li_const hx hb dX6_take_6 ?_
  refine li_const hx hb dX6_take_7 ?_
  refine cl_i0 (isC := [0, 1, 2, 3, 4]) (isR := []) (isN := [0, 1, 2, 3, 4]) (wr := []) (wn := cMd cI n L a rn sp cnt (chA 0 1 1) (rowF w op tn pl en kd nb) as ln dr M0 M1 M2 M3 M4) (As := [.int (iI 0), .int (iI 1), .int (iI 1)]) (rest := []) (r := bz (chA 0 1 1 = 0)) (ci := 6) (q0 := 0) ⟨hx, hb, hml, hown, hts⟩ (c_X6_check n L a rn sp cnt th w op tn pl en kd nb as ln dr M0 M1 M2 M3 M4 0 1 1 (by first | decide | exact bz_01 _ | omega) (by first | decide | exact bz_01 _ | omega) (by first | decide | exact bz_01 _ | omega)) (cwV 3 hts gX6_take_X6_check rfl rfl rfl (by decide +kernel) ⟨Nat.le_of_ble_eq_true rfl, Nat.le_of_ble_eq_true rfl⟩) hK hNW hP hD hS hA rfl rfl rfl rfl (by decide) rfl rfl rfl rfl rfl rfl hl.1 rfl (Nat.le_of_ble_eq_true rfl) dX6_take_8 ⟨Nat.zero_le _, Nat.zero_le _⟩ (fun H locs hP hD hS => ?_)
  refine li_top (b := 0) rfl ?_
  refine li_if_ne_f (tgt := 16) hx hb dX6_take_11 (by decide) (by decide) (by decide) ?_
  refine li_const hx hb dX6_take_14 ?_
  exact li_iret () hx hb hr hlocks hK hP hD hS dX6_take_15 hQ rfl (congrArg iI (rfl))

set_option maxRecDepth 100000 in
set_option maxHeartbeats 4000000 in
theorem c_X6_minutesFor_ok {l : Launch} {D : va_G} {cI cZ cJ : ClassId} (n : Int) (L : Int) (a : Int) (rn : Int) (sp : Int) (cnt : Int) (th : Int) (w : Wt) (op : Int → Int) (tn : Int → Int) (pl : Int → Int) (en : Int) (kd : Int → Int) (nb : Int → Int) (as : Int → Int) (ln : Int → Int) (dr : Int → Int) (M0 M1 M2 M3 M4 : Nat) (b : Int) (up : Int) (hn : 1 ≤ n ∧ n ≤ 6) (hL : 5 ≤ L ∧ L ≤ 40) (ha : 1 ≤ a ∧ a ≤ 50) (hw : WI n L a w) (hcnt : 0 ≤ cnt ∧ cnt ≤ 10) (hln : lnB ln) (hdr : lnB dr) (hpi : plI n pl) (hup : up = 0 ∨ up = 1) (i_b : -2147483648 ≤ b ∧ b < 2147483648) (hv : 0 ≤ b ∧ b ≤ cnt - 1) : Di l yX6_minutesFor wsX6_minutesFor 25 [.ref M0, .int (iI b), .int (iI up)] D (ty3 cI cZ cJ) (cMd cI n L a rn sp cnt th (rowF w op tn pl en kd nb) as ln dr M0 M1 M2 M3 M4) (if (brM n L a cnt ln dr b up 7 pl w).2.2.2.2 = -1 then (brM n L a cnt ln dr b up 7 pl w).2.1.2.2.1 - w.2.2.1 else -1) (cMd cI n L a rn sp cnt 0 (rowF w op tn pl en kd nb) (cpK (rowF w op tn pl en kd nb) as 50) ln dr M0 M1 M2 M3 M4) := by
  refine ct_i (plainFor_of_name (by decide)) rfl (Nat.le_of_ble_eq_true rfl) ?_
  intro p e s mI args below meth c_0 ls A hx hb hr hml hts hown hlocks hin hA hP hK hD hNW hS hl Q hQ
  have hown : s.vm.findClass RX6 = some mI.cls := hown
  have hl : lv_has ls 5 [(0, .ref M0), (1, .int (iI b)), (2, .int (iI up))] := hl
  have hin_X6 : ∀ w ∈ wsX60, w ∈ wsX6_minutesFor := by decide +kernel
  have hf_9 := hts (.fieldLink RX6 9 "LockStaircaseModel" "row" "[I") (by decide +kernel)
  refine lv_aload_n hx hb dX6_minutesFor_0 rfl (lv_at hl 0 rfl) ?_
  refine lv_aload_n hx hb dX6_minutesFor_1 rfl (lv_at hl 0 rfl) ?_
  refine lv_iload_n hx hb dX6_minutesFor_2 rfl (lv_at hl 1 rfl) ?_
  refine cl_i0 (isC := [0, 1, 2, 3, 4]) (isR := []) (isN := [0, 1, 2, 3, 4]) (wr := []) (wn := cMd cI n L a rn sp cnt th (rowF w op tn pl en kd nb) as ln dr M0 M1 M2 M3 M4) (As := [.int (iI b)]) (rest := [.ref M0]) (r := bz (0 ≤ b ∧ b ≤ cnt - 1)) (ci := 6) (q0 := 0) ⟨hx, hb, hml, hown, hts⟩ (c_X6_isBoat n L a rn sp cnt th w op tn pl en kd nb as ln dr M0 M1 M2 M3 M4 b (by first | assumption | omega) (by first | assumption | omega)) (cwV 1 hts gX6_minutesFor_X6_isBoat rfl rfl rfl (by decide +kernel) ⟨Nat.le_of_ble_eq_true rfl, Nat.le_of_ble_eq_true rfl⟩) hK hNW hP hD hS hA rfl rfl rfl rfl (by decide) rfl rfl rfl rfl rfl rfl hl.1 rfl (Nat.le_of_ble_eq_true rfl) dX6_minutesFor_3 ⟨Nat.zero_le _, Nat.zero_le _⟩ (fun H locs hP hD hS => ?_)
  refine li_top (b := 1) (bz_t (by exact hv)) ?_
  refine li_const hx hb dX6_minutesFor_6 ?_
  refine li_const hx hb dX6_minutesFor_7 ?_
  refine cl_i0 (isC := [0, 1, 2, 3, 4]) (isR := []) (isN := [0, 1, 2, 3, 4]) (wr := []) (wn := cMd cI n L a rn sp cnt (chA 1 1 1) (rowF w op tn pl en kd nb) as ln dr M0 M1 M2 M3 M4) (As := [.int (iI 1), .int (iI 1), .int (iI 1)]) (rest := []) (r := bz (chA 1 1 1 = 0)) (ci := 6) (q0 := 0) ⟨hx, hb, hml, hown, hts⟩ (c_X6_check n L a rn sp cnt th w op tn pl en kd nb as ln dr M0 M1 M2 M3 M4 1 1 1 (by first | decide | exact bz_01 _ | omega) (by first | decide | exact bz_01 _ | omega) (by first | decide | exact bz_01 _ | omega)) (cwV 3 hts gX6_minutesFor_X6_check rfl rfl rfl (by decide +kernel) ⟨Nat.le_of_ble_eq_true rfl, Nat.le_of_ble_eq_true rfl⟩) hK hNW hP hD hS hA rfl rfl rfl rfl (by decide) rfl rfl rfl rfl rfl rfl hl.1 rfl (Nat.le_of_ble_eq_true rfl) dX6_minutesFor_8 ⟨Nat.zero_le _, Nat.zero_le _⟩ (fun H locs hP hD hS => ?_)
  refine li_top (b := 1) rfl ?_
  refine li_if_ne_t (tgt := 16) hx hb dX6_minutesFor_11 (by decide) (by decide) (by decide) ?_
  refine lv_aload_n hx hb dX6_minutesFor_16 rfl (lv_at hl 0 rfl) ?_
  refine cl_v0 (isC := [0, 1, 2, 3, 4]) (isR := []) (isN := [0, 1, 2, 3, 4]) (wr := []) (wn := cMd cI n L a rn sp cnt 0 (rowF w op tn pl en kd nb) (cpK (rowF w op tn pl en kd nb) as 50) ln dr M0 M1 M2 M3 M4) (As := []) (rest := []) (ci := 6) (q0 := 0) ⟨hx, hb, hml, hown, hts⟩ (c_X6_putAside n L a rn sp cnt 0 (rowF w op tn pl en kd nb) as ln dr M0 M1 M2 M3 M4 ) (cwV 0 hts gX6_minutesFor_X6_putAside rfl rfl rfl (by decide +kernel) ⟨Nat.le_of_ble_eq_true rfl, Nat.le_of_ble_eq_true rfl⟩) hK hNW hP hD hS hA rfl rfl rfl rfl (by decide) rfl rfl rfl rfl rfl rfl hl.1 rfl (Nat.le_of_ble_eq_true rfl) dX6_minutesFor_17 ⟨Nat.zero_le _, Nat.zero_le _⟩ (fun H locs hP hD hS => ?_)
  refine lv_aload_n hx hb dX6_minutesFor_20 rfl (lv_at hl 0 rfl) ?_
  refine lv_iload_n hx hb dX6_minutesFor_21 rfl (lv_at hl 1 rfl) ?_
  refine lv_iload_n hx hb dX6_minutesFor_22 rfl (lv_at hl 2 rfl) ?_
  refine cl_i0 (isC := [0, 1, 2, 3, 4]) (isR := []) (isN := [0, 1, 2, 3, 4]) (wr := []) (wn := cMd cI n L a rn sp cnt 0 (rowF ((brM n L a cnt ln dr b up 7 pl w).2.1) (zrZ op (n + 1)) (zrZ tn (n + 1)) ((brM n L a cnt ln dr b up 7 pl w).1) (ten n (brM n L a cnt ln dr b up 7 pl w).2.2) (tkd n (brM n L a cnt ln dr b up 7 pl w).2.2 kd) (tnb n (brM n L a cnt ln dr b up 7 pl w).2.2 nb)) (cpK (rowF w op tn pl en kd nb) as 50) ln dr M0 M1 M2 M3 M4) (As := [.int (iI b), .int (iI up)]) (rest := []) (r := bz ((brM n L a cnt ln dr b up 7 pl w).2.2.2.2 = -1)) (ci := 6) (q0 := 0) ⟨hx, hb, hml, hown, hts⟩ (c_X6_takeOne n L a rn sp cnt 0 w op tn pl en kd nb (cpK (rowF w op tn pl en kd nb) as 50) ln dr M0 M1 M2 M3 M4 b up (by first | assumption | omega) (by first | assumption | omega) (by first | assumption | omega) (by first | assumption | omega) (by first | assumption | omega) (by first | assumption | omega) (by first | assumption | omega) (by first | assumption | omega) (by first | assumption | omega) (by first | assumption | omega)) (cwV 2 hts gX6_minutesFor_X6_takeOne rfl rfl rfl (by decide +kernel) ⟨Nat.le_of_ble_eq_true rfl, Nat.le_of_ble_eq_true rfl⟩) hK hNW hP hD hS hA rfl rfl rfl rfl (by decide) rfl rfl rfl rfl rfl rfl hl.1 rfl (Nat.le_of_ble_eq_true rfl) dX6_minutesFor_23 ⟨Nat.zero_le _, Nat.zero_le _⟩ (fun H locs hP hD hS => ?_)
  refine lv_istore_n (lv' := [(3, .int (iI (bz ((brM n L a cnt ln dr b up 7 pl w).2.2.2.2 = -1)))), (0, .ref M0), (1, .int (iI b)), (2, .int (iI up))]) hx hb dX6_minutesFor_26 rfl hl (by decide) rfl (fun ls hl => ?_)
  refine lv_aload_n hx hb dX6_minutesFor_27 rfl (lv_at hl 1 rfl) ?_
  refine li_get (ci := 6) (v := .ref M1) (C := RX6) (T := TX6) (N := 11) (q0 := 0) (k := 5) hx hb hts hin_X6 hown hK hP rfl rfl (by decide) hf_9 rfl rfl dX6_minutesFor_28 ?_
  refine li_const hx hb dX6_minutesFor_31 ?_
  refine li_iald (q0 := 1) (t0 := 0) (g := (rowF ((brM n L a cnt ln dr b up 7 pl w).2.1) (zrZ op (n + 1)) (zrZ tn (n + 1)) ((brM n L a cnt ln dr b up 7 pl w).1) (ten n (brM n L a cnt ln dr b up 7 pl w).2.2) (tkd n (brM n L a cnt ln dr b up 7 pl w).2.2 kd) (tnb n (brM n L a cnt ln dr b up 7 pl w).2.2 nb))) hx hb hK hP rfl rfl (by omega) (by omega) (by decide) dX6_minutesFor_32 ?_
  refine li_top (b := ((brM n L a cnt ln dr b up 7 pl w).2.1).2.2.1) (rd_T rfl) ?_
  refine lv_istore (lv' := [(4, .int (iI (((brM n L a cnt ln dr b up 7 pl w).2.1).2.2.1))), (3, .int (iI (bz ((brM n L a cnt ln dr b up 7 pl w).2.2.2.2 = -1)))), (0, .ref M0), (1, .int (iI b)), (2, .int (iI up))]) hx hb dX6_minutesFor_33 hl (by decide) rfl (fun ls hl => ?_)
  refine lv_aload_n hx hb dX6_minutesFor_35 rfl (lv_at hl 2 rfl) ?_
  refine cl_v0 (isC := [0, 1, 2, 3, 4]) (isR := []) (isN := [0, 1, 2, 3, 4]) (wr := []) (wn := cMd cI n L a rn sp cnt 0 (cpK (cpK (rowF w op tn pl en kd nb) as 50) (rowF ((brM n L a cnt ln dr b up 7 pl w).2.1) (zrZ op (n + 1)) (zrZ tn (n + 1)) ((brM n L a cnt ln dr b up 7 pl w).1) (ten n (brM n L a cnt ln dr b up 7 pl w).2.2) (tkd n (brM n L a cnt ln dr b up 7 pl w).2.2 kd) (tnb n (brM n L a cnt ln dr b up 7 pl w).2.2 nb)) 50) (cpK (rowF w op tn pl en kd nb) as 50) ln dr M0 M1 M2 M3 M4) (As := []) (rest := []) (ci := 6) (q0 := 0) ⟨hx, hb, hml, hown, hts⟩ (c_X6_takeBack n L a rn sp cnt 0 (rowF ((brM n L a cnt ln dr b up 7 pl w).2.1) (zrZ op (n + 1)) (zrZ tn (n + 1)) ((brM n L a cnt ln dr b up 7 pl w).1) (ten n (brM n L a cnt ln dr b up 7 pl w).2.2) (tkd n (brM n L a cnt ln dr b up 7 pl w).2.2 kd) (tnb n (brM n L a cnt ln dr b up 7 pl w).2.2 nb)) (cpK (rowF w op tn pl en kd nb) as 50) ln dr M0 M1 M2 M3 M4 ) (cwV 0 hts gX6_minutesFor_X6_takeBack rfl rfl rfl (by decide +kernel) ⟨Nat.le_of_ble_eq_true rfl, Nat.le_of_ble_eq_true rfl⟩) hK hNW hP hD hS hA rfl rfl rfl rfl (by decide) rfl rfl rfl rfl rfl rfl hl.1 rfl (Nat.le_of_ble_eq_true rfl) dX6_minutesFor_36 ⟨Nat.zero_le _, Nat.zero_le _⟩ (fun H locs hP hD hS => ?_)
  have e_row : cpK (cpK (rowF w op tn pl en kd nb) as 50) (rowF ((brM n L a cnt ln dr b up 7 pl w).2.1) (zrZ op (n + 1)) (zrZ tn (n + 1)) ((brM n L a cnt ln dr b up 7 pl w).1) (ten n (brM n L a cnt ln dr b up 7 pl w).2.2) (tkd n (brM n L a cnt ln dr b up 7 pl w).2.2 kd) (tnb n (brM n L a cnt ln dr b up 7 pl w).2.2 nb)) 50 = (rowF w op tn pl en kd nb) := by exact row_back
  rw [e_row] at hP hD
  refine lv_iload_n hx hb dX6_minutesFor_39 rfl (lv_at hl 1 rfl) ?_
  refine li_ifb_eq (tgt := 55) hx hb dX6_minutesFor_40 (by decide) (fun c_40 => ?_) (fun c_40 => ?_)
  · refine li_const hx hb dX6_minutesFor_55 ?_
    exact li_iret () hx hb hr hlocks hK hP hD hS dX6_minutesFor_56 hQ rfl (congrArg iI (by first | rw [if_pos (by assumption)] | rw [if_neg (by assumption)]))
  · refine lv_iload hx hb dX6_minutesFor_43 (lv_at hl 0 rfl) ?_
    refine lv_aload_n hx hb dX6_minutesFor_45 rfl (lv_at hl 2 rfl) ?_
    refine li_get (ci := 6) (v := .ref M1) (C := RX6) (T := TX6) (N := 11) (q0 := 0) (k := 5) hx hb hts hin_X6 hown hK hP rfl rfl (by decide) hf_9 rfl rfl dX6_minutesFor_46 ?_
    refine li_const hx hb dX6_minutesFor_49 ?_
    refine li_iald (q0 := 1) (t0 := 0) (g := (rowF w op tn pl en kd nb)) hx hb hK hP rfl rfl (by omega) (by omega) (by decide) dX6_minutesFor_50 ?_
    refine li_top (b := w.2.2.1) (rd_T rfl) ?_
    refine li_sub hx hb dX6_minutesFor_51 ?_
    refine lv_goto (tgt := 56) hx hb dX6_minutesFor_52 (by decide) ?_
    exact li_iret () hx hb hr hlocks hK hP hD hS dX6_minutesFor_56 hQ rfl (congrArg iI (by first | rw [if_pos (by assumption)] | rw [if_neg (by assumption)]))

set_option maxRecDepth 100000 in
set_option maxHeartbeats 4000000 in
theorem c_X6_minutesFor_no {l : Launch} {D : va_G} {cI cZ cJ : ClassId} (n : Int) (L : Int) (a : Int) (rn : Int) (sp : Int) (cnt : Int) (th : Int) (w : Wt) (op : Int → Int) (tn : Int → Int) (pl : Int → Int) (en : Int) (kd : Int → Int) (nb : Int → Int) (as : Int → Int) (ln : Int → Int) (dr : Int → Int) (M0 M1 M2 M3 M4 : Nat) (b : Int) (up : Int) (hn : 1 ≤ n ∧ n ≤ 6) (hL : 5 ≤ L ∧ L ≤ 40) (ha : 1 ≤ a ∧ a ≤ 50) (hw : WI n L a w) (hcnt : 0 ≤ cnt ∧ cnt ≤ 10) (hln : lnB ln) (hdr : lnB dr) (hpi : plI n pl) (hup : up = 0 ∨ up = 1) (i_b : -2147483648 ≤ b ∧ b < 2147483648) (hv : ¬ (0 ≤ b ∧ b ≤ cnt - 1)) : Di l yX6_minutesFor wsX6_minutesFor 25 [.ref M0, .int (iI b), .int (iI up)] D (ty3 cI cZ cJ) (cMd cI n L a rn sp cnt th (rowF w op tn pl en kd nb) as ln dr M0 M1 M2 M3 M4) (0) (cMd cI n L a rn sp cnt 1 (rowF w op tn pl en kd nb) as ln dr M0 M1 M2 M3 M4) := by
  refine ct_i (plainFor_of_name (by decide)) rfl (Nat.le_of_ble_eq_true rfl) ?_
  intro p e s mI args below meth c_0 ls A hx hb hr hml hts hown hlocks hin hA hP hK hD hNW hS hl Q hQ
  have hown : s.vm.findClass RX6 = some mI.cls := hown
  have hl : lv_has ls 5 [(0, .ref M0), (1, .int (iI b)), (2, .int (iI up))] := hl
  refine lv_aload_n hx hb dX6_minutesFor_0 rfl (lv_at hl 0 rfl) ?_
  refine lv_aload_n hx hb dX6_minutesFor_1 rfl (lv_at hl 0 rfl) ?_
  refine lv_iload_n hx hb dX6_minutesFor_2 rfl (lv_at hl 1 rfl) ?_
  refine cl_i0 (isC := [0, 1, 2, 3, 4]) (isR := []) (isN := [0, 1, 2, 3, 4]) (wr := []) (wn := cMd cI n L a rn sp cnt th (rowF w op tn pl en kd nb) as ln dr M0 M1 M2 M3 M4) (As := [.int (iI b)]) (rest := [.ref M0]) (r := bz (0 ≤ b ∧ b ≤ cnt - 1)) (ci := 6) (q0 := 0) ⟨hx, hb, hml, hown, hts⟩ (c_X6_isBoat n L a rn sp cnt th w op tn pl en kd nb as ln dr M0 M1 M2 M3 M4 b (by first | assumption | omega) (by first | assumption | omega)) (cwV 1 hts gX6_minutesFor_X6_isBoat rfl rfl rfl (by decide +kernel) ⟨Nat.le_of_ble_eq_true rfl, Nat.le_of_ble_eq_true rfl⟩) hK hNW hP hD hS hA rfl rfl rfl rfl (by decide) rfl rfl rfl rfl rfl rfl hl.1 rfl (Nat.le_of_ble_eq_true rfl) dX6_minutesFor_3 ⟨Nat.zero_le _, Nat.zero_le _⟩ (fun H locs hP hD hS => ?_)
  refine li_top (b := 0) (bz_f (by exact hv)) ?_
  refine li_const hx hb dX6_minutesFor_6 ?_
  refine li_const hx hb dX6_minutesFor_7 ?_
  refine cl_i0 (isC := [0, 1, 2, 3, 4]) (isR := []) (isN := [0, 1, 2, 3, 4]) (wr := []) (wn := cMd cI n L a rn sp cnt (chA 0 1 1) (rowF w op tn pl en kd nb) as ln dr M0 M1 M2 M3 M4) (As := [.int (iI 0), .int (iI 1), .int (iI 1)]) (rest := []) (r := bz (chA 0 1 1 = 0)) (ci := 6) (q0 := 0) ⟨hx, hb, hml, hown, hts⟩ (c_X6_check n L a rn sp cnt th w op tn pl en kd nb as ln dr M0 M1 M2 M3 M4 0 1 1 (by first | decide | exact bz_01 _ | omega) (by first | decide | exact bz_01 _ | omega) (by first | decide | exact bz_01 _ | omega)) (cwV 3 hts gX6_minutesFor_X6_check rfl rfl rfl (by decide +kernel) ⟨Nat.le_of_ble_eq_true rfl, Nat.le_of_ble_eq_true rfl⟩) hK hNW hP hD hS hA rfl rfl rfl rfl (by decide) rfl rfl rfl rfl rfl rfl hl.1 rfl (Nat.le_of_ble_eq_true rfl) dX6_minutesFor_8 ⟨Nat.zero_le _, Nat.zero_le _⟩ (fun H locs hP hD hS => ?_)
  refine li_top (b := 0) rfl ?_
  refine li_if_ne_f (tgt := 16) hx hb dX6_minutesFor_11 (by decide) (by decide) (by decide) ?_
  refine li_const hx hb dX6_minutesFor_14 ?_
  exact li_iret () hx hb hr hlocks hK hP hD hS dX6_minutesFor_15 hQ rfl (congrArg iI (rfl))

set_option maxRecDepth 100000 in
set_option maxHeartbeats 4000000 in
theorem c_X6_waterFor_ok {l : Launch} {D : va_G} {cI cZ cJ : ClassId} (n : Int) (L : Int) (a : Int) (rn : Int) (sp : Int) (cnt : Int) (th : Int) (w : Wt) (op : Int → Int) (tn : Int → Int) (pl : Int → Int) (en : Int) (kd : Int → Int) (nb : Int → Int) (as : Int → Int) (ln : Int → Int) (dr : Int → Int) (M0 M1 M2 M3 M4 : Nat) (b : Int) (up : Int) (hn : 1 ≤ n ∧ n ≤ 6) (hL : 5 ≤ L ∧ L ≤ 40) (ha : 1 ≤ a ∧ a ≤ 50) (hw : WI n L a w) (hcnt : 0 ≤ cnt ∧ cnt ≤ 10) (hln : lnB ln) (hdr : lnB dr) (hpi : plI n pl) (hup : up = 0 ∨ up = 1) (i_b : -2147483648 ≤ b ∧ b < 2147483648) (hv : 0 ≤ b ∧ b ≤ cnt - 1) : Di l yX6_waterFor wsX6_waterFor 25 [.ref M0, .int (iI b), .int (iI up)] D (ty3 cI cZ cJ) (cMd cI n L a rn sp cnt th (rowF w op tn pl en kd nb) as ln dr M0 M1 M2 M3 M4) (w.1 - (brM n L a cnt ln dr b up 7 pl w).2.1.1) (cMd cI n L a rn sp cnt 0 (rowF w op tn pl en kd nb) (cpK (rowF w op tn pl en kd nb) as 50) ln dr M0 M1 M2 M3 M4) := by
  refine ct_i (plainFor_of_name (by decide)) rfl (Nat.le_of_ble_eq_true rfl) ?_
  intro p e s mI args below meth c_0 ls A hx hb hr hml hts hown hlocks hin hA hP hK hD hNW hS hl Q hQ
  have hown : s.vm.findClass RX6 = some mI.cls := hown
  have hl : lv_has ls 5 [(0, .ref M0), (1, .int (iI b)), (2, .int (iI up))] := hl
  have hin_X6 : ∀ w ∈ wsX60, w ∈ wsX6_waterFor := by decide +kernel
  have hf_9 := hts (.fieldLink RX6 9 "LockStaircaseModel" "row" "[I") (by decide +kernel)
  refine lv_aload_n hx hb dX6_waterFor_0 rfl (lv_at hl 0 rfl) ?_
  refine lv_aload_n hx hb dX6_waterFor_1 rfl (lv_at hl 0 rfl) ?_
  refine lv_iload_n hx hb dX6_waterFor_2 rfl (lv_at hl 1 rfl) ?_
  refine cl_i0 (isC := [0, 1, 2, 3, 4]) (isR := []) (isN := [0, 1, 2, 3, 4]) (wr := []) (wn := cMd cI n L a rn sp cnt th (rowF w op tn pl en kd nb) as ln dr M0 M1 M2 M3 M4) (As := [.int (iI b)]) (rest := [.ref M0]) (r := bz (0 ≤ b ∧ b ≤ cnt - 1)) (ci := 6) (q0 := 0) ⟨hx, hb, hml, hown, hts⟩ (c_X6_isBoat n L a rn sp cnt th w op tn pl en kd nb as ln dr M0 M1 M2 M3 M4 b (by first | assumption | omega) (by first | assumption | omega)) (cwV 1 hts gX6_waterFor_X6_isBoat rfl rfl rfl (by decide +kernel) ⟨Nat.le_of_ble_eq_true rfl, Nat.le_of_ble_eq_true rfl⟩) hK hNW hP hD hS hA rfl rfl rfl rfl (by decide) rfl rfl rfl rfl rfl rfl hl.1 rfl (Nat.le_of_ble_eq_true rfl) dX6_waterFor_3 ⟨Nat.zero_le _, Nat.zero_le _⟩ (fun H locs hP hD hS => ?_)
  refine li_top (b := 1) (bz_t (by exact hv)) ?_
  refine li_const hx hb dX6_waterFor_6 ?_
  refine li_const hx hb dX6_waterFor_7 ?_
  refine cl_i0 (isC := [0, 1, 2, 3, 4]) (isR := []) (isN := [0, 1, 2, 3, 4]) (wr := []) (wn := cMd cI n L a rn sp cnt (chA 1 1 1) (rowF w op tn pl en kd nb) as ln dr M0 M1 M2 M3 M4) (As := [.int (iI 1), .int (iI 1), .int (iI 1)]) (rest := []) (r := bz (chA 1 1 1 = 0)) (ci := 6) (q0 := 0) ⟨hx, hb, hml, hown, hts⟩ (c_X6_check n L a rn sp cnt th w op tn pl en kd nb as ln dr M0 M1 M2 M3 M4 1 1 1 (by first | decide | exact bz_01 _ | omega) (by first | decide | exact bz_01 _ | omega) (by first | decide | exact bz_01 _ | omega)) (cwV 3 hts gX6_waterFor_X6_check rfl rfl rfl (by decide +kernel) ⟨Nat.le_of_ble_eq_true rfl, Nat.le_of_ble_eq_true rfl⟩) hK hNW hP hD hS hA rfl rfl rfl rfl (by decide) rfl rfl rfl rfl rfl rfl hl.1 rfl (Nat.le_of_ble_eq_true rfl) dX6_waterFor_8 ⟨Nat.zero_le _, Nat.zero_le _⟩ (fun H locs hP hD hS => ?_)
  refine li_top (b := 1) rfl ?_
  refine li_if_ne_t (tgt := 16) hx hb dX6_waterFor_11 (by decide) (by decide) (by decide) ?_
  refine lv_aload_n hx hb dX6_waterFor_16 rfl (lv_at hl 0 rfl) ?_
  refine cl_v0 (isC := [0, 1, 2, 3, 4]) (isR := []) (isN := [0, 1, 2, 3, 4]) (wr := []) (wn := cMd cI n L a rn sp cnt 0 (rowF w op tn pl en kd nb) (cpK (rowF w op tn pl en kd nb) as 50) ln dr M0 M1 M2 M3 M4) (As := []) (rest := []) (ci := 6) (q0 := 0) ⟨hx, hb, hml, hown, hts⟩ (c_X6_putAside n L a rn sp cnt 0 (rowF w op tn pl en kd nb) as ln dr M0 M1 M2 M3 M4 ) (cwV 0 hts gX6_waterFor_X6_putAside rfl rfl rfl (by decide +kernel) ⟨Nat.le_of_ble_eq_true rfl, Nat.le_of_ble_eq_true rfl⟩) hK hNW hP hD hS hA rfl rfl rfl rfl (by decide) rfl rfl rfl rfl rfl rfl hl.1 rfl (Nat.le_of_ble_eq_true rfl) dX6_waterFor_17 ⟨Nat.zero_le _, Nat.zero_le _⟩ (fun H locs hP hD hS => ?_)
  refine lv_aload_n hx hb dX6_waterFor_20 rfl (lv_at hl 0 rfl) ?_
  refine lv_iload_n hx hb dX6_waterFor_21 rfl (lv_at hl 1 rfl) ?_
  refine lv_iload_n hx hb dX6_waterFor_22 rfl (lv_at hl 2 rfl) ?_
  refine cl_i0 (isC := [0, 1, 2, 3, 4]) (isR := []) (isN := [0, 1, 2, 3, 4]) (wr := []) (wn := cMd cI n L a rn sp cnt 0 (rowF ((brM n L a cnt ln dr b up 7 pl w).2.1) (zrZ op (n + 1)) (zrZ tn (n + 1)) ((brM n L a cnt ln dr b up 7 pl w).1) (ten n (brM n L a cnt ln dr b up 7 pl w).2.2) (tkd n (brM n L a cnt ln dr b up 7 pl w).2.2 kd) (tnb n (brM n L a cnt ln dr b up 7 pl w).2.2 nb)) (cpK (rowF w op tn pl en kd nb) as 50) ln dr M0 M1 M2 M3 M4) (As := [.int (iI b), .int (iI up)]) (rest := []) (r := bz ((brM n L a cnt ln dr b up 7 pl w).2.2.2.2 = -1)) (ci := 6) (q0 := 0) ⟨hx, hb, hml, hown, hts⟩ (c_X6_takeOne n L a rn sp cnt 0 w op tn pl en kd nb (cpK (rowF w op tn pl en kd nb) as 50) ln dr M0 M1 M2 M3 M4 b up (by first | assumption | omega) (by first | assumption | omega) (by first | assumption | omega) (by first | assumption | omega) (by first | assumption | omega) (by first | assumption | omega) (by first | assumption | omega) (by first | assumption | omega) (by first | assumption | omega) (by first | assumption | omega)) (cwV 2 hts gX6_waterFor_X6_takeOne rfl rfl rfl (by decide +kernel) ⟨Nat.le_of_ble_eq_true rfl, Nat.le_of_ble_eq_true rfl⟩) hK hNW hP hD hS hA rfl rfl rfl rfl (by decide) rfl rfl rfl rfl rfl rfl hl.1 rfl (Nat.le_of_ble_eq_true rfl) dX6_waterFor_23 ⟨Nat.zero_le _, Nat.zero_le _⟩ (fun H locs hP hD hS => ?_)
  refine lv_istore_n (lv' := [(3, .int (iI (bz ((brM n L a cnt ln dr b up 7 pl w).2.2.2.2 = -1)))), (0, .ref M0), (1, .int (iI b)), (2, .int (iI up))]) hx hb dX6_waterFor_26 rfl hl (by decide) rfl (fun ls hl => ?_)
  refine lv_aload_n hx hb dX6_waterFor_27 rfl (lv_at hl 1 rfl) ?_
  refine li_get (ci := 6) (v := .ref M1) (C := RX6) (T := TX6) (N := 11) (q0 := 0) (k := 5) hx hb hts hin_X6 hown hK hP rfl rfl (by decide) hf_9 rfl rfl dX6_waterFor_28 ?_
  refine li_const hx hb dX6_waterFor_31 ?_
  refine li_iald (q0 := 1) (t0 := 0) (g := (rowF ((brM n L a cnt ln dr b up 7 pl w).2.1) (zrZ op (n + 1)) (zrZ tn (n + 1)) ((brM n L a cnt ln dr b up 7 pl w).1) (ten n (brM n L a cnt ln dr b up 7 pl w).2.2) (tkd n (brM n L a cnt ln dr b up 7 pl w).2.2 kd) (tnb n (brM n L a cnt ln dr b up 7 pl w).2.2 nb))) hx hb hK hP rfl rfl (by omega) (by omega) (by decide) dX6_waterFor_32 ?_
  refine li_top (b := ((brM n L a cnt ln dr b up 7 pl w).2.1).1) (rd_W rfl) ?_
  refine lv_istore (lv' := [(4, .int (iI (((brM n L a cnt ln dr b up 7 pl w).2.1).1))), (3, .int (iI (bz ((brM n L a cnt ln dr b up 7 pl w).2.2.2.2 = -1)))), (0, .ref M0), (1, .int (iI b)), (2, .int (iI up))]) hx hb dX6_waterFor_33 hl (by decide) rfl (fun ls hl => ?_)
  refine lv_aload_n hx hb dX6_waterFor_35 rfl (lv_at hl 2 rfl) ?_
  refine cl_v0 (isC := [0, 1, 2, 3, 4]) (isR := []) (isN := [0, 1, 2, 3, 4]) (wr := []) (wn := cMd cI n L a rn sp cnt 0 (cpK (cpK (rowF w op tn pl en kd nb) as 50) (rowF ((brM n L a cnt ln dr b up 7 pl w).2.1) (zrZ op (n + 1)) (zrZ tn (n + 1)) ((brM n L a cnt ln dr b up 7 pl w).1) (ten n (brM n L a cnt ln dr b up 7 pl w).2.2) (tkd n (brM n L a cnt ln dr b up 7 pl w).2.2 kd) (tnb n (brM n L a cnt ln dr b up 7 pl w).2.2 nb)) 50) (cpK (rowF w op tn pl en kd nb) as 50) ln dr M0 M1 M2 M3 M4) (As := []) (rest := []) (ci := 6) (q0 := 0) ⟨hx, hb, hml, hown, hts⟩ (c_X6_takeBack n L a rn sp cnt 0 (rowF ((brM n L a cnt ln dr b up 7 pl w).2.1) (zrZ op (n + 1)) (zrZ tn (n + 1)) ((brM n L a cnt ln dr b up 7 pl w).1) (ten n (brM n L a cnt ln dr b up 7 pl w).2.2) (tkd n (brM n L a cnt ln dr b up 7 pl w).2.2 kd) (tnb n (brM n L a cnt ln dr b up 7 pl w).2.2 nb)) (cpK (rowF w op tn pl en kd nb) as 50) ln dr M0 M1 M2 M3 M4 ) (cwV 0 hts gX6_waterFor_X6_takeBack rfl rfl rfl (by decide +kernel) ⟨Nat.le_of_ble_eq_true rfl, Nat.le_of_ble_eq_true rfl⟩) hK hNW hP hD hS hA rfl rfl rfl rfl (by decide) rfl rfl rfl rfl rfl rfl hl.1 rfl (Nat.le_of_ble_eq_true rfl) dX6_waterFor_36 ⟨Nat.zero_le _, Nat.zero_le _⟩ (fun H locs hP hD hS => ?_)
  have e_row : cpK (cpK (rowF w op tn pl en kd nb) as 50) (rowF ((brM n L a cnt ln dr b up 7 pl w).2.1) (zrZ op (n + 1)) (zrZ tn (n + 1)) ((brM n L a cnt ln dr b up 7 pl w).1) (ten n (brM n L a cnt ln dr b up 7 pl w).2.2) (tkd n (brM n L a cnt ln dr b up 7 pl w).2.2 kd) (tnb n (brM n L a cnt ln dr b up 7 pl w).2.2 nb)) 50 = (rowF w op tn pl en kd nb) := by exact row_back
  rw [e_row] at hP hD
  refine lv_aload_n hx hb dX6_waterFor_39 rfl (lv_at hl 2 rfl) ?_
  refine li_get (ci := 6) (v := .ref M1) (C := RX6) (T := TX6) (N := 11) (q0 := 0) (k := 5) hx hb hts hin_X6 hown hK hP rfl rfl (by decide) hf_9 rfl rfl dX6_waterFor_40 ?_
  refine li_const hx hb dX6_waterFor_43 ?_
  refine li_iald (q0 := 1) (t0 := 0) (g := (rowF w op tn pl en kd nb)) hx hb hK hP rfl rfl (by omega) (by omega) (by decide) dX6_waterFor_44 ?_
  refine li_top (b := w.1) (rd_W rfl) ?_
  refine lv_iload hx hb dX6_waterFor_45 (lv_at hl 0 rfl) ?_
  refine li_sub hx hb dX6_waterFor_47 ?_
  exact li_iret () hx hb hr hlocks hK hP hD hS dX6_waterFor_48 hQ rfl (congrArg iI (rfl))

set_option maxRecDepth 100000 in
set_option maxHeartbeats 4000000 in
theorem c_X6_waterFor_no {l : Launch} {D : va_G} {cI cZ cJ : ClassId} (n : Int) (L : Int) (a : Int) (rn : Int) (sp : Int) (cnt : Int) (th : Int) (w : Wt) (op : Int → Int) (tn : Int → Int) (pl : Int → Int) (en : Int) (kd : Int → Int) (nb : Int → Int) (as : Int → Int) (ln : Int → Int) (dr : Int → Int) (M0 M1 M2 M3 M4 : Nat) (b : Int) (up : Int) (hn : 1 ≤ n ∧ n ≤ 6) (hL : 5 ≤ L ∧ L ≤ 40) (ha : 1 ≤ a ∧ a ≤ 50) (hw : WI n L a w) (hcnt : 0 ≤ cnt ∧ cnt ≤ 10) (hln : lnB ln) (hdr : lnB dr) (hpi : plI n pl) (hup : up = 0 ∨ up = 1) (i_b : -2147483648 ≤ b ∧ b < 2147483648) (hv : ¬ (0 ≤ b ∧ b ≤ cnt - 1)) : Di l yX6_waterFor wsX6_waterFor 25 [.ref M0, .int (iI b), .int (iI up)] D (ty3 cI cZ cJ) (cMd cI n L a rn sp cnt th (rowF w op tn pl en kd nb) as ln dr M0 M1 M2 M3 M4) (0) (cMd cI n L a rn sp cnt 1 (rowF w op tn pl en kd nb) as ln dr M0 M1 M2 M3 M4) := by
  refine ct_i (plainFor_of_name (by decide)) rfl (Nat.le_of_ble_eq_true rfl) ?_
  intro p e s mI args below meth c_0 ls A hx hb hr hml hts hown hlocks hin hA hP hK hD hNW hS hl Q hQ
  have hown : s.vm.findClass RX6 = some mI.cls := hown
  have hl : lv_has ls 5 [(0, .ref M0), (1, .int (iI b)), (2, .int (iI up))] := hl
  refine lv_aload_n hx hb dX6_waterFor_0 rfl (lv_at hl 0 rfl) ?_
  refine lv_aload_n hx hb dX6_waterFor_1 rfl (lv_at hl 0 rfl) ?_
  refine lv_iload_n hx hb dX6_waterFor_2 rfl (lv_at hl 1 rfl) ?_
  refine cl_i0 (isC := [0, 1, 2, 3, 4]) (isR := []) (isN := [0, 1, 2, 3, 4]) (wr := []) (wn := cMd cI n L a rn sp cnt th (rowF w op tn pl en kd nb) as ln dr M0 M1 M2 M3 M4) (As := [.int (iI b)]) (rest := [.ref M0]) (r := bz (0 ≤ b ∧ b ≤ cnt - 1)) (ci := 6) (q0 := 0) ⟨hx, hb, hml, hown, hts⟩ (c_X6_isBoat n L a rn sp cnt th w op tn pl en kd nb as ln dr M0 M1 M2 M3 M4 b (by first | assumption | omega) (by first | assumption | omega)) (cwV 1 hts gX6_waterFor_X6_isBoat rfl rfl rfl (by decide +kernel) ⟨Nat.le_of_ble_eq_true rfl, Nat.le_of_ble_eq_true rfl⟩) hK hNW hP hD hS hA rfl rfl rfl rfl (by decide) rfl rfl rfl rfl rfl rfl hl.1 rfl (Nat.le_of_ble_eq_true rfl) dX6_waterFor_3 ⟨Nat.zero_le _, Nat.zero_le _⟩ (fun H locs hP hD hS => ?_)
  refine li_top (b := 0) (bz_f (by exact hv)) ?_
  refine li_const hx hb dX6_waterFor_6 ?_
  refine li_const hx hb dX6_waterFor_7 ?_
  refine cl_i0 (isC := [0, 1, 2, 3, 4]) (isR := []) (isN := [0, 1, 2, 3, 4]) (wr := []) (wn := cMd cI n L a rn sp cnt (chA 0 1 1) (rowF w op tn pl en kd nb) as ln dr M0 M1 M2 M3 M4) (As := [.int (iI 0), .int (iI 1), .int (iI 1)]) (rest := []) (r := bz (chA 0 1 1 = 0)) (ci := 6) (q0 := 0) ⟨hx, hb, hml, hown, hts⟩ (c_X6_check n L a rn sp cnt th w op tn pl en kd nb as ln dr M0 M1 M2 M3 M4 0 1 1 (by first | decide | exact bz_01 _ | omega) (by first | decide | exact bz_01 _ | omega) (by first | decide | exact bz_01 _ | omega)) (cwV 3 hts gX6_waterFor_X6_check rfl rfl rfl (by decide +kernel) ⟨Nat.le_of_ble_eq_true rfl, Nat.le_of_ble_eq_true rfl⟩) hK hNW hP hD hS hA rfl rfl rfl rfl (by decide) rfl rfl rfl rfl rfl rfl hl.1 rfl (Nat.le_of_ble_eq_true rfl) dX6_waterFor_8 ⟨Nat.zero_le _, Nat.zero_le _⟩ (fun H locs hP hD hS => ?_)
  refine li_top (b := 0) rfl ?_
  refine li_if_ne_f (tgt := 16) hx hb dX6_waterFor_11 (by decide) (by decide) (by decide) ?_
  refine li_const hx hb dX6_waterFor_14 ?_
  exact li_iret () hx hb hr hlocks hK hP hD hS dX6_waterFor_15 hQ rfl (congrArg iI (rfl))

set_option maxRecDepth 100000 in
set_option maxHeartbeats 4000000 in
theorem c_X6_rain_ok {l : Launch} {D : va_G} {cI cZ cJ : ClassId} (n : Int) (L : Int) (a : Int) (rn : Int) (sp : Int) (cnt : Int) (th : Int) (w : Wt) (op : Int → Int) (tn : Int → Int) (pl : Int → Int) (en : Int) (kd : Int → Int) (nb : Int → Int) (as : Int → Int) (ln : Int → Int) (dr : Int → Int) (M0 M1 M2 M3 M4 : Nat) (x : Int) (hn : 1 ≤ n ∧ n ≤ 6) (hL : 5 ≤ L ∧ L ≤ 40) (ha : 1 ≤ a ∧ a ≤ 50) (hw : WI n L a w) (hop : opB op) (hoz : ∀ g, n < g → op g = 0) (i_x : -2147483648 ≤ x ∧ x < 2147483648) (hv : 1 ≤ x ∧ x ≤ 999) (ho2 : ¬ (isO op n = true)) : Di l yX6_rain wsX6_rain 25 [.ref M0, .int (iI x)] D (ty3 cI cZ cJ) (cMd cI n L a rn sp cnt th (rowF w op tn pl en kd nb) as ln dr M0 M1 M2 M3 M4) (spA a w.1 x) (cMd cI n L a (rn + x) (sp + spA a w.1 x) cnt 0 (rowF (w.1 + (x - spA a w.1 x), w.2.1, w.2.2.1, w.2.2.2) op tn pl en kd nb) as ln dr M0 M1 M2 M3 M4) := by
  refine ct_i (plainFor_of_name (by decide)) rfl (Nat.le_of_ble_eq_true rfl) ?_
  intro p e s mI args below meth c_0 ls A hx hb hr hml hts hown hlocks hin hA hP hK hD hNW hS hl Q hQ
  have hown : s.vm.findClass RX6 = some mI.cls := hown
  have hl : lv_has ls 3 [(0, .ref M0), (1, .int (iI x))] := hl
  have hin_X6 : ∀ w ∈ wsX60, w ∈ wsX6_rain := by decide +kernel
  have hk_max := hts (.code Lib.Math.max.name Lib.Math.max.code 2 (some .int)) (by decide +kernel)
  have hf_148 := hts (.fieldLink RX6 148 "LockStaircaseModel" "rained" "I") (by decide +kernel)
  have hf_151 := hts (.fieldLink RX6 151 "LockStaircaseModel" "spilled" "I") (by decide +kernel)
  have hf_26 := hts (.fieldLink RX6 26 "LockStaircaseModel" "chambers" "I") (by decide +kernel)
  have hf_9 := hts (.fieldLink RX6 9 "LockStaircaseModel" "row" "[I") (by decide +kernel)
  have hi_Math := hts (.initialized "java/lang/Math") (by decide +kernel)
  have hm_49 := hts (.methodLink RX6 49 Lib.Math.max.name) (by decide +kernel)
  have hs_max := hts (.static Lib.Math.max.name) (by decide +kernel)
  have hw1 : -1000 ≤ w.1 ∧ w.1 ≤ 20 * a := hw.1
  refine lv_aload_n hx hb dX6_rain_0 rfl (lv_at hl 0 rfl) ?_
  refine lv_iload_n hx hb dX6_rain_1 rfl (lv_at hl 1 rfl) ?_
  refine li_const hx hb dX6_rain_2 ?_
  refine li_sipush hx hb dX6_rain_3 (by decide) ?_
  refine cs_i0 (isC := []) (isR := [0, 1, 2, 3, 4]) (isN := [0, 1, 2, 3, 4]) (wr := cMd cI n L a rn sp cnt th (rowF w op tn pl en kd nb) as ln dr M0 M1 M2 M3 M4) (wn := cMd cI n L a rn sp cnt th (rowF w op tn pl en kd nb) as ln dr M0 M1 M2 M3 M4) (As := [.int (iI x), .int (iI 1), .int (iI 999)]) (rest := [.ref M0]) (r := bz (1 ≤ x ∧ x ≤ 999)) ⟨hx, hb, hml, hown, hts⟩ (c_X6_isWithin x 1 999 (by first | assumption | omega) (by first | assumption | omega) (by first | assumption | omega)) (va_cwS 3 hts gX6_rain_X6_isWithin rfl rfl rfl (by decide +kernel) ⟨Nat.le_of_ble_eq_true rfl, Nat.le_of_ble_eq_true rfl⟩) hK hNW hP hD hS hA rfl rfl rfl rfl (by decide) rfl rfl rfl hl.1 rfl (Nat.le_of_ble_eq_true rfl) dX6_rain_6 ⟨Nat.zero_le _, Nat.zero_le _⟩ (fun H locs hP hD hS => ?_)
  refine li_top (b := 1) (bz_t (by exact hv)) ?_
  refine lv_aload_n hx hb dX6_rain_9 rfl (lv_at hl 0 rfl) ?_
  refine lv_aload_n hx hb dX6_rain_10 rfl (lv_at hl 0 rfl) ?_
  refine li_get (ci := 6) (v := .int (iI n)) (C := RX6) (T := TX6) (N := 11) (q0 := 0) (k := 0) hx hb hts hin_X6 hown hK hP rfl rfl (by decide) hf_26 rfl rfl dX6_rain_11 ?_
  refine cl_i0 (isC := [0, 1, 2, 3, 4]) (isR := []) (isN := [0, 1, 2, 3, 4]) (wr := []) (wn := cMd cI n L a rn sp cnt th (rowF w op tn pl en kd nb) as ln dr M0 M1 M2 M3 M4) (As := [.int (iI n)]) (rest := [.int (iI 1), .ref M0]) (r := bz (isO op n = true)) (ci := 6) (q0 := 0) ⟨hx, hb, hml, hown, hts⟩ (c_X6_isOpenGate n L a rn sp cnt th w op tn pl en kd nb as ln dr M0 M1 M2 M3 M4 n (by first | assumption | omega) (by first | assumption | omega) (by first | assumption | omega) (by first | assumption | omega) (by first | assumption | omega) (by first | assumption | omega)) (cwV 1 hts gX6_rain_X6_isOpenGate rfl rfl rfl (by decide +kernel) ⟨Nat.le_of_ble_eq_true rfl, Nat.le_of_ble_eq_true rfl⟩) hK hNW hP hD hS hA rfl rfl rfl rfl (by decide) rfl rfl rfl rfl rfl rfl hl.1 rfl (Nat.le_of_ble_eq_true rfl) dX6_rain_14 ⟨Nat.zero_le _, Nat.zero_le _⟩ (fun H locs hP hD hS => ?_)
  refine li_top (b := 0) (bz_f (by exact ho2)) ?_
  refine li_if_ne_f (tgt := 24) hx hb dX6_rain_17 (by decide) (by decide) (by decide) ?_
  refine li_const hx hb dX6_rain_20 ?_
  refine lv_goto (tgt := 25) hx hb dX6_rain_21 (by decide) ?_
  refine li_const hx hb dX6_rain_25 ?_
  refine cl_i0 (isC := [0, 1, 2, 3, 4]) (isR := []) (isN := [0, 1, 2, 3, 4]) (wr := []) (wn := cMd cI n L a rn sp cnt (chA 1 1 1) (rowF w op tn pl en kd nb) as ln dr M0 M1 M2 M3 M4) (As := [.int (iI 1), .int (iI 1), .int (iI 1)]) (rest := []) (r := bz (chA 1 1 1 = 0)) (ci := 6) (q0 := 0) ⟨hx, hb, hml, hown, hts⟩ (c_X6_check n L a rn sp cnt th w op tn pl en kd nb as ln dr M0 M1 M2 M3 M4 1 1 1 (by first | decide | exact bz_01 _ | omega) (by first | decide | exact bz_01 _ | omega) (by first | decide | exact bz_01 _ | omega)) (cwV 3 hts gX6_rain_X6_check rfl rfl rfl (by decide +kernel) ⟨Nat.le_of_ble_eq_true rfl, Nat.le_of_ble_eq_true rfl⟩) hK hNW hP hD hS hA rfl rfl rfl rfl (by decide) rfl rfl rfl rfl rfl rfl hl.1 rfl (Nat.le_of_ble_eq_true rfl) dX6_rain_26 ⟨Nat.zero_le _, Nat.zero_le _⟩ (fun H locs hP hD hS => ?_)
  refine li_top (b := 1) rfl ?_
  refine li_if_ne_t (tgt := 34) hx hb dX6_rain_29 (by decide) (by decide) (by decide) ?_
  refine li_const hx hb dX6_rain_34 ?_
  refine lv_aload_n hx hb dX6_rain_35 rfl (lv_at hl 0 rfl) ?_
  refine li_get (ci := 6) (v := .ref M1) (C := RX6) (T := TX6) (N := 11) (q0 := 0) (k := 5) hx hb hts hin_X6 hown hK hP rfl rfl (by decide) hf_9 rfl rfl dX6_rain_36 ?_
  refine li_const hx hb dX6_rain_39 ?_
  refine li_iald (q0 := 1) (t0 := 0) (g := (rowF w op tn pl en kd nb)) hx hb hK hP rfl rfl (by omega) (by omega) (by decide) dX6_rain_40 ?_
  refine li_top (b := w.1) (rd_W rfl) ?_
  refine lv_iload_n hx hb dX6_rain_41 rfl (lv_at hl 1 rfl) ?_
  refine li_add hx hb dX6_rain_42 ?_
  refine lv_aload_n hx hb dX6_rain_43 rfl (lv_at hl 0 rfl) ?_
  refine cl_i0 (isC := [0, 1, 2, 3, 4]) (isR := []) (isN := [0, 1, 2, 3, 4]) (wr := []) (wn := cMd cI n L a rn sp cnt 0 (rowF w op tn pl en kd nb) as ln dr M0 M1 M2 M3 M4) (As := []) (rest := [.int (iI (w.1 + x)), .int (iI 0)]) (r := 20 * a) (ci := 6) (q0 := 0) ⟨hx, hb, hml, hown, hts⟩ (c_X6_full n L a rn sp cnt 0 w op tn pl en kd nb as ln dr M0 M1 M2 M3 M4 ) (cwV 0 hts gX6_rain_X6_full rfl rfl rfl (by decide +kernel) ⟨Nat.le_of_ble_eq_true rfl, Nat.le_of_ble_eq_true rfl⟩) hK hNW hP hD hS hA rfl rfl rfl rfl (by decide) rfl rfl rfl rfl rfl rfl hl.1 rfl (Nat.le_of_ble_eq_true rfl) dX6_rain_44 ⟨Nat.zero_le _, Nat.zero_le _⟩ (fun H locs hP hD hS => ?_)
  refine li_sub hx hb dX6_rain_47 ?_
  refine li_max hx hb (hml.trans hl.1.symm) hown hm_49 hs_max hi_Math hk_max (Nat.le_of_ble_eq_true rfl) (Nat.le_of_ble_eq_true rfl) (Nat.zero_le _) (Nat.zero_le _) (by decide) (ib_i (by omega) (by omega)) dX6_rain_48 ?_
  refine lv_istore_n (lv' := [(2, .int (iI (if 0 < (w.1 + x) - (20 * a) then (w.1 + x) - (20 * a) else 0))), (0, .ref M0), (1, .int (iI x))]) hx hb dX6_rain_51 rfl hl (by decide) rfl (fun ls hl => ?_)
  refine lv_aload_n hx hb dX6_rain_52 rfl (lv_at hl 1 rfl) ?_
  refine li_get (ci := 6) (v := .ref M1) (C := RX6) (T := TX6) (N := 11) (q0 := 0) (k := 5) hx hb hts hin_X6 hown hK hP rfl rfl (by decide) hf_9 rfl rfl dX6_rain_53 ?_
  refine li_const hx hb dX6_rain_56 ?_
  refine lv_dup2_11 hx hb dX6_rain_57 rfl rfl ?_
  refine li_iald (q0 := 1) (t0 := 0) (g := (rowF w op tn pl en kd nb)) hx hb hK hP rfl rfl (by omega) (by omega) (by decide) dX6_rain_58 ?_
  refine li_top (b := w.1) (rd_W rfl) ?_
  refine lv_iload_n hx hb dX6_rain_59 rfl (lv_at hl 2 rfl) ?_
  refine lv_iload_n hx hb dX6_rain_60 rfl (lv_at hl 0 rfl) ?_
  refine li_sub hx hb dX6_rain_61 ?_
  refine li_add hx hb dX6_rain_62 ?_
  refine li_iast (q0 := 1) (t0 := 0) (g := (rowF w op tn pl en kd nb)) (w2 := cMd cI n L a rn sp cnt 0 (rowF (w.1 + (x - (if 0 < (w.1 + x) - (20 * a) then (w.1 + x) - (20 * a) else 0)), w.2.1, w.2.2.1, w.2.2.2) op tn pl en kd nb) as ln dr M0 M1 M2 M3 M4) hx hb hK hP hD hS rfl rfl (by omega) (by omega) (by decide) dX6_rain_63 (by rw [wr_W rfl] <;> rfl) (fun H locs hP hD hS => ?_)
  refine lv_aload_n hx hb dX6_rain_64 rfl (lv_at hl 1 rfl) ?_
  refine lv_dup hx hb dX6_rain_65 rfl ?_
  refine li_get (ci := 6) (v := .int (iI rn)) (C := RX6) (T := TX6) (N := 11) (q0 := 0) (k := 3) hx hb hts hin_X6 hown hK hP rfl rfl (by decide) hf_148 rfl rfl dX6_rain_66 ?_
  refine lv_iload_n hx hb dX6_rain_69 rfl (lv_at hl 2 rfl) ?_
  refine li_add hx hb dX6_rain_70 ?_
  refine li_put (ci := 6) (v := .int (iI (rn + x))) (ty := .int) (C := RX6) (T := TX6) (N := 11) (q0 := 0) (k := 3) (w2 := cMd cI n L a (rn + x) sp cnt 0 (rowF (w.1 + (x - (if 0 < (w.1 + x) - (20 * a) then (w.1 + x) - (20 * a) else 0)), w.2.1, w.2.2.1, w.2.2.2) op tn pl en kd nb) as ln dr M0 M1 M2 M3 M4) hx hb hts hin_X6 tyX6_ok nmX6 hown hK hP hD hS rfl rfl (by decide) hf_148 rfl rfl (by decide +kernel) rfl rfl (Nat.le_of_ble_eq_true rfl) dX6_rain_71 rfl (fun H locs hP hD hS => ?_)
  refine lv_aload_n hx hb dX6_rain_74 rfl (lv_at hl 1 rfl) ?_
  refine lv_dup hx hb dX6_rain_75 rfl ?_
  refine li_get (ci := 6) (v := .int (iI sp)) (C := RX6) (T := TX6) (N := 11) (q0 := 0) (k := 4) hx hb hts hin_X6 hown hK hP rfl rfl (by decide) hf_151 rfl rfl dX6_rain_76 ?_
  refine lv_iload_n hx hb dX6_rain_79 rfl (lv_at hl 0 rfl) ?_
  refine li_add hx hb dX6_rain_80 ?_
  refine li_put (ci := 6) (v := .int (iI (sp + (if 0 < (w.1 + x) - (20 * a) then (w.1 + x) - (20 * a) else 0)))) (ty := .int) (C := RX6) (T := TX6) (N := 11) (q0 := 0) (k := 4) (w2 := cMd cI n L a (rn + x) (sp + (if 0 < (w.1 + x) - (20 * a) then (w.1 + x) - (20 * a) else 0)) cnt 0 (rowF (w.1 + (x - (if 0 < (w.1 + x) - (20 * a) then (w.1 + x) - (20 * a) else 0)), w.2.1, w.2.2.1, w.2.2.2) op tn pl en kd nb) as ln dr M0 M1 M2 M3 M4) hx hb hts hin_X6 tyX6_ok nmX6 hown hK hP hD hS rfl rfl (by decide) hf_151 rfl rfl (by decide +kernel) rfl rfl (Nat.le_of_ble_eq_true rfl) dX6_rain_81 rfl (fun H locs hP hD hS => ?_)
  refine lv_iload_n hx hb dX6_rain_84 rfl (lv_at hl 0 rfl) ?_
  exact li_iret () hx hb hr hlocks hK hP hD hS dX6_rain_85 hQ rfl (congrArg iI (rfl))

set_option maxRecDepth 100000 in
set_option maxHeartbeats 4000000 in
theorem c_X6_rain_no1 {l : Launch} {D : va_G} {cI cZ cJ : ClassId} (n : Int) (L : Int) (a : Int) (rn : Int) (sp : Int) (cnt : Int) (th : Int) (w : Wt) (op : Int → Int) (tn : Int → Int) (pl : Int → Int) (en : Int) (kd : Int → Int) (nb : Int → Int) (as : Int → Int) (ln : Int → Int) (dr : Int → Int) (M0 M1 M2 M3 M4 : Nat) (x : Int) (hn : 1 ≤ n ∧ n ≤ 6) (hL : 5 ≤ L ∧ L ≤ 40) (ha : 1 ≤ a ∧ a ≤ 50) (hw : WI n L a w) (hop : opB op) (hoz : ∀ g, n < g → op g = 0) (i_x : -2147483648 ≤ x ∧ x < 2147483648) (hv : ¬ (1 ≤ x ∧ x ≤ 999)) : Di l yX6_rain wsX6_rain 25 [.ref M0, .int (iI x)] D (ty3 cI cZ cJ) (cMd cI n L a rn sp cnt th (rowF w op tn pl en kd nb) as ln dr M0 M1 M2 M3 M4) (0) (cMd cI n L a rn sp cnt 1 (rowF w op tn pl en kd nb) as ln dr M0 M1 M2 M3 M4) := by
  refine ct_i (plainFor_of_name (by decide)) rfl (Nat.le_of_ble_eq_true rfl) ?_
  intro p e s mI args below meth c_0 ls A hx hb hr hml hts hown hlocks hin hA hP hK hD hNW hS hl Q hQ
  have hown : s.vm.findClass RX6 = some mI.cls := hown
  have hl : lv_has ls 3 [(0, .ref M0), (1, .int (iI x))] := hl
  have hin_X6 : ∀ w ∈ wsX60, w ∈ wsX6_rain := by decide +kernel
  have hf_26 := hts (.fieldLink RX6 26 "LockStaircaseModel" "chambers" "I") (by decide +kernel)
  refine lv_aload_n hx hb dX6_rain_0 rfl (lv_at hl 0 rfl) ?_
  refine lv_iload_n hx hb dX6_rain_1 rfl (lv_at hl 1 rfl) ?_
  refine li_const hx hb dX6_rain_2 ?_
  refine li_sipush hx hb dX6_rain_3 (by decide) ?_
  refine cs_i0 (isC := []) (isR := [0, 1, 2, 3, 4]) (isN := [0, 1, 2, 3, 4]) (wr := cMd cI n L a rn sp cnt th (rowF w op tn pl en kd nb) as ln dr M0 M1 M2 M3 M4) (wn := cMd cI n L a rn sp cnt th (rowF w op tn pl en kd nb) as ln dr M0 M1 M2 M3 M4) (As := [.int (iI x), .int (iI 1), .int (iI 999)]) (rest := [.ref M0]) (r := bz (1 ≤ x ∧ x ≤ 999)) ⟨hx, hb, hml, hown, hts⟩ (c_X6_isWithin x 1 999 (by first | assumption | omega) (by first | assumption | omega) (by first | assumption | omega)) (va_cwS 3 hts gX6_rain_X6_isWithin rfl rfl rfl (by decide +kernel) ⟨Nat.le_of_ble_eq_true rfl, Nat.le_of_ble_eq_true rfl⟩) hK hNW hP hD hS hA rfl rfl rfl rfl (by decide) rfl rfl rfl hl.1 rfl (Nat.le_of_ble_eq_true rfl) dX6_rain_6 ⟨Nat.zero_le _, Nat.zero_le _⟩ (fun H locs hP hD hS => ?_)
  refine li_top (b := 0) (bz_f (by exact hv)) ?_
  refine lv_aload_n hx hb dX6_rain_9 rfl (lv_at hl 0 rfl) ?_
  refine lv_aload_n hx hb dX6_rain_10 rfl (lv_at hl 0 rfl) ?_
  refine li_get (ci := 6) (v := .int (iI n)) (C := RX6) (T := TX6) (N := 11) (q0 := 0) (k := 0) hx hb hts hin_X6 hown hK hP rfl rfl (by decide) hf_26 rfl rfl dX6_rain_11 ?_
  refine cl_i0 (isC := [0, 1, 2, 3, 4]) (isR := []) (isN := [0, 1, 2, 3, 4]) (wr := []) (wn := cMd cI n L a rn sp cnt th (rowF w op tn pl en kd nb) as ln dr M0 M1 M2 M3 M4) (As := [.int (iI n)]) (rest := [.int (iI 0), .ref M0]) (r := bz (isO op n = true)) (ci := 6) (q0 := 0) ⟨hx, hb, hml, hown, hts⟩ (c_X6_isOpenGate n L a rn sp cnt th w op tn pl en kd nb as ln dr M0 M1 M2 M3 M4 n (by first | assumption | omega) (by first | assumption | omega) (by first | assumption | omega) (by first | assumption | omega) (by first | assumption | omega) (by first | assumption | omega)) (cwV 1 hts gX6_rain_X6_isOpenGate rfl rfl rfl (by decide +kernel) ⟨Nat.le_of_ble_eq_true rfl, Nat.le_of_ble_eq_true rfl⟩) hK hNW hP hD hS hA rfl rfl rfl rfl (by decide) rfl rfl rfl rfl rfl rfl hl.1 rfl (Nat.le_of_ble_eq_true rfl) dX6_rain_14 ⟨Nat.zero_le _, Nat.zero_le _⟩ (fun H locs hP hD hS => ?_)
  refine li_ifb_ne (tgt := 24) hx hb dX6_rain_17 (by decide) (fun c_17 => ?_) (fun c_17 => ?_)
  · refine li_const hx hb dX6_rain_24 ?_
    refine li_const hx hb dX6_rain_25 ?_
    refine cl_i0 (isC := [0, 1, 2, 3, 4]) (isR := []) (isN := [0, 1, 2, 3, 4]) (wr := []) (wn := cMd cI n L a rn sp cnt (chA 0 0 1) (rowF w op tn pl en kd nb) as ln dr M0 M1 M2 M3 M4) (As := [.int (iI 0), .int (iI 0), .int (iI 1)]) (rest := []) (r := bz (chA 0 0 1 = 0)) (ci := 6) (q0 := 0) ⟨hx, hb, hml, hown, hts⟩ (c_X6_check n L a rn sp cnt th w op tn pl en kd nb as ln dr M0 M1 M2 M3 M4 0 0 1 (by first | decide | exact bz_01 _ | omega) (by first | decide | exact bz_01 _ | omega) (by first | decide | exact bz_01 _ | omega)) (cwV 3 hts gX6_rain_X6_check rfl rfl rfl (by decide +kernel) ⟨Nat.le_of_ble_eq_true rfl, Nat.le_of_ble_eq_true rfl⟩) hK hNW hP hD hS hA rfl rfl rfl rfl (by decide) rfl rfl rfl rfl rfl rfl hl.1 rfl (Nat.le_of_ble_eq_true rfl) dX6_rain_26 ⟨Nat.zero_le _, Nat.zero_le _⟩ (fun H locs hP hD hS => ?_)
    refine li_top (b := 0) rfl ?_
    refine li_if_ne_f (tgt := 34) hx hb dX6_rain_29 (by decide) (by decide) (by decide) ?_
    refine li_const hx hb dX6_rain_32 ?_
    exact li_iret () hx hb hr hlocks hK hP hD hS dX6_rain_33 hQ rfl (congrArg iI (rfl))
  · refine li_const hx hb dX6_rain_20 ?_
    refine lv_goto (tgt := 25) hx hb dX6_rain_21 (by decide) ?_
    refine li_const hx hb dX6_rain_25 ?_
    refine cl_i0 (isC := [0, 1, 2, 3, 4]) (isR := []) (isN := [0, 1, 2, 3, 4]) (wr := []) (wn := cMd cI n L a rn sp cnt (chA 0 1 1) (rowF w op tn pl en kd nb) as ln dr M0 M1 M2 M3 M4) (As := [.int (iI 0), .int (iI 1), .int (iI 1)]) (rest := []) (r := bz (chA 0 1 1 = 0)) (ci := 6) (q0 := 0) ⟨hx, hb, hml, hown, hts⟩ (c_X6_check n L a rn sp cnt th w op tn pl en kd nb as ln dr M0 M1 M2 M3 M4 0 1 1 (by first | decide | exact bz_01 _ | omega) (by first | decide | exact bz_01 _ | omega) (by first | decide | exact bz_01 _ | omega)) (cwV 3 hts gX6_rain_X6_check rfl rfl rfl (by decide +kernel) ⟨Nat.le_of_ble_eq_true rfl, Nat.le_of_ble_eq_true rfl⟩) hK hNW hP hD hS hA rfl rfl rfl rfl (by decide) rfl rfl rfl rfl rfl rfl hl.1 rfl (Nat.le_of_ble_eq_true rfl) dX6_rain_26 ⟨Nat.zero_le _, Nat.zero_le _⟩ (fun H locs hP hD hS => ?_)
    refine li_top (b := 0) rfl ?_
    refine li_if_ne_f (tgt := 34) hx hb dX6_rain_29 (by decide) (by decide) (by decide) ?_
    refine li_const hx hb dX6_rain_32 ?_
    exact li_iret () hx hb hr hlocks hK hP hD hS dX6_rain_33 hQ rfl (congrArg iI (rfl))

set_option maxRecDepth 100000 in
set_option maxHeartbeats 4000000 in
theorem c_X6_rain_no2 {l : Launch} {D : va_G} {cI cZ cJ : ClassId} (n : Int) (L : Int) (a : Int) (rn : Int) (sp : Int) (cnt : Int) (th : Int) (w : Wt) (op : Int → Int) (tn : Int → Int) (pl : Int → Int) (en : Int) (kd : Int → Int) (nb : Int → Int) (as : Int → Int) (ln : Int → Int) (dr : Int → Int) (M0 M1 M2 M3 M4 : Nat) (x : Int) (hn : 1 ≤ n ∧ n ≤ 6) (hL : 5 ≤ L ∧ L ≤ 40) (ha : 1 ≤ a ∧ a ≤ 50) (hw : WI n L a w) (hop : opB op) (hoz : ∀ g, n < g → op g = 0) (i_x : -2147483648 ≤ x ∧ x < 2147483648) (hv : 1 ≤ x ∧ x ≤ 999) (ho2 : isO op n = true) : Di l yX6_rain wsX6_rain 25 [.ref M0, .int (iI x)] D (ty3 cI cZ cJ) (cMd cI n L a rn sp cnt th (rowF w op tn pl en kd nb) as ln dr M0 M1 M2 M3 M4) (0) (cMd cI n L a rn sp cnt 2 (rowF w op tn pl en kd nb) as ln dr M0 M1 M2 M3 M4) := by
  refine ct_i (plainFor_of_name (by decide)) rfl (Nat.le_of_ble_eq_true rfl) ?_
  intro p e s mI args below meth c_0 ls A hx hb hr hml hts hown hlocks hin hA hP hK hD hNW hS hl Q hQ
  have hown : s.vm.findClass RX6 = some mI.cls := hown
  have hl : lv_has ls 3 [(0, .ref M0), (1, .int (iI x))] := hl
  have hin_X6 : ∀ w ∈ wsX60, w ∈ wsX6_rain := by decide +kernel
  have hf_26 := hts (.fieldLink RX6 26 "LockStaircaseModel" "chambers" "I") (by decide +kernel)
  refine lv_aload_n hx hb dX6_rain_0 rfl (lv_at hl 0 rfl) ?_
  refine lv_iload_n hx hb dX6_rain_1 rfl (lv_at hl 1 rfl) ?_
  refine li_const hx hb dX6_rain_2 ?_
  refine li_sipush hx hb dX6_rain_3 (by decide) ?_
  refine cs_i0 (isC := []) (isR := [0, 1, 2, 3, 4]) (isN := [0, 1, 2, 3, 4]) (wr := cMd cI n L a rn sp cnt th (rowF w op tn pl en kd nb) as ln dr M0 M1 M2 M3 M4) (wn := cMd cI n L a rn sp cnt th (rowF w op tn pl en kd nb) as ln dr M0 M1 M2 M3 M4) (As := [.int (iI x), .int (iI 1), .int (iI 999)]) (rest := [.ref M0]) (r := bz (1 ≤ x ∧ x ≤ 999)) ⟨hx, hb, hml, hown, hts⟩ (c_X6_isWithin x 1 999 (by first | assumption | omega) (by first | assumption | omega) (by first | assumption | omega)) (va_cwS 3 hts gX6_rain_X6_isWithin rfl rfl rfl (by decide +kernel) ⟨Nat.le_of_ble_eq_true rfl, Nat.le_of_ble_eq_true rfl⟩) hK hNW hP hD hS hA rfl rfl rfl rfl (by decide) rfl rfl rfl hl.1 rfl (Nat.le_of_ble_eq_true rfl) dX6_rain_6 ⟨Nat.zero_le _, Nat.zero_le _⟩ (fun H locs hP hD hS => ?_)
  refine li_top (b := 1) (bz_t (by exact hv)) ?_
  refine lv_aload_n hx hb dX6_rain_9 rfl (lv_at hl 0 rfl) ?_
  refine lv_aload_n hx hb dX6_rain_10 rfl (lv_at hl 0 rfl) ?_
  refine li_get (ci := 6) (v := .int (iI n)) (C := RX6) (T := TX6) (N := 11) (q0 := 0) (k := 0) hx hb hts hin_X6 hown hK hP rfl rfl (by decide) hf_26 rfl rfl dX6_rain_11 ?_
  refine cl_i0 (isC := [0, 1, 2, 3, 4]) (isR := []) (isN := [0, 1, 2, 3, 4]) (wr := []) (wn := cMd cI n L a rn sp cnt th (rowF w op tn pl en kd nb) as ln dr M0 M1 M2 M3 M4) (As := [.int (iI n)]) (rest := [.int (iI 1), .ref M0]) (r := bz (isO op n = true)) (ci := 6) (q0 := 0) ⟨hx, hb, hml, hown, hts⟩ (c_X6_isOpenGate n L a rn sp cnt th w op tn pl en kd nb as ln dr M0 M1 M2 M3 M4 n (by first | assumption | omega) (by first | assumption | omega) (by first | assumption | omega) (by first | assumption | omega) (by first | assumption | omega) (by first | assumption | omega)) (cwV 1 hts gX6_rain_X6_isOpenGate rfl rfl rfl (by decide +kernel) ⟨Nat.le_of_ble_eq_true rfl, Nat.le_of_ble_eq_true rfl⟩) hK hNW hP hD hS hA rfl rfl rfl rfl (by decide) rfl rfl rfl rfl rfl rfl hl.1 rfl (Nat.le_of_ble_eq_true rfl) dX6_rain_14 ⟨Nat.zero_le _, Nat.zero_le _⟩ (fun H locs hP hD hS => ?_)
  refine li_top (b := 1) (bz_t (by exact ho2)) ?_
  refine li_if_ne_t (tgt := 24) hx hb dX6_rain_17 (by decide) (by decide) (by decide) ?_
  refine li_const hx hb dX6_rain_24 ?_
  refine li_const hx hb dX6_rain_25 ?_
  refine cl_i0 (isC := [0, 1, 2, 3, 4]) (isR := []) (isN := [0, 1, 2, 3, 4]) (wr := []) (wn := cMd cI n L a rn sp cnt (chA 1 0 1) (rowF w op tn pl en kd nb) as ln dr M0 M1 M2 M3 M4) (As := [.int (iI 1), .int (iI 0), .int (iI 1)]) (rest := []) (r := bz (chA 1 0 1 = 0)) (ci := 6) (q0 := 0) ⟨hx, hb, hml, hown, hts⟩ (c_X6_check n L a rn sp cnt th w op tn pl en kd nb as ln dr M0 M1 M2 M3 M4 1 0 1 (by first | decide | exact bz_01 _ | omega) (by first | decide | exact bz_01 _ | omega) (by first | decide | exact bz_01 _ | omega)) (cwV 3 hts gX6_rain_X6_check rfl rfl rfl (by decide +kernel) ⟨Nat.le_of_ble_eq_true rfl, Nat.le_of_ble_eq_true rfl⟩) hK hNW hP hD hS hA rfl rfl rfl rfl (by decide) rfl rfl rfl rfl rfl rfl hl.1 rfl (Nat.le_of_ble_eq_true rfl) dX6_rain_26 ⟨Nat.zero_le _, Nat.zero_le _⟩ (fun H locs hP hD hS => ?_)
  refine li_top (b := 0) rfl ?_
  refine li_if_ne_f (tgt := 34) hx hb dX6_rain_29 (by decide) (by decide) (by decide) ?_
  refine li_const hx hb dX6_rain_32 ?_
  exact li_iret () hx hb hr hlocks hK hP hD hS dX6_rain_33 hQ rfl (congrArg iI (rfl))

set_option maxRecDepth 100000 in
set_option maxHeartbeats 4000000 in
theorem c_X6_open_ok {l : Launch} {D : va_G} {cI cZ cJ : ClassId} (n : Int) (L : Int) (a : Int) (rn : Int) (sp : Int) (cnt : Int) (th : Int) (w : Wt) (op : Int → Int) (tn : Int → Int) (pl : Int → Int) (en : Int) (kd : Int → Int) (nb : Int → Int) (as : Int → Int) (ln : Int → Int) (dr : Int → Int) (M0 M1 M2 M3 M4 : Nat) (x : Int) (hn : 1 ≤ n ∧ n ≤ 6) (hL : 5 ≤ L ∧ L ≤ 40) (ha : 1 ≤ a ∧ a ≤ 50) (hw : WI n L a w) (hop : opB op) (hoz : ∀ g, n < g → op g = 0) (htn : tnB tn) (htz : ∀ g, n < g → tn g = 0) (i_x : -2147483648 ≤ x ∧ x < 2147483648) (hv : 0 ≤ x ∧ x ≤ n) (hc : opO n L a w op tn x = 0) : Di l yX6_open wsX6_open 25 [.ref M0, .int (iI x)] D (ty3 cI cZ cJ) (cMd cI n L a rn sp cnt th (rowF w op tn pl en kd nb) as ln dr M0 M1 M2 M3 M4) (sumZ (upZ op x 1) 7) (cMd cI n L a rn sp cnt 0 (rowF w (upZ op x 1) tn pl en kd nb) as ln dr M0 M1 M2 M3 M4) := by
  refine ct_i (plainFor_of_name (by decide)) rfl (Nat.le_of_ble_eq_true rfl) ?_
  intro p e s mI args below meth c_0 ls A hx hb hr hml hts hown hlocks hin hA hP hK hD hNW hS hl Q hQ
  have hown : s.vm.findClass RX6 = some mI.cls := hown
  have hl : lv_has ls 5 [(0, .ref M0), (1, .int (iI x))] := hl
  have hin_X6 : ∀ w ∈ wsX60, w ∈ wsX6_open := by decide +kernel
  have hf_26 := hts (.fieldLink RX6 26 "LockStaircaseModel" "chambers" "I") (by decide +kernel)
  have hf_9 := hts (.fieldLink RX6 9 "LockStaircaseModel" "row" "[I") (by decide +kernel)
  refine lv_aload_n hx hb dX6_open_0 rfl (lv_at hl 0 rfl) ?_
  refine lv_iload_n hx hb dX6_open_1 rfl (lv_at hl 1 rfl) ?_
  refine cl_i0 (isC := [0, 1, 2, 3, 4]) (isR := []) (isN := [0, 1, 2, 3, 4]) (wr := []) (wn := cMd cI n L a rn sp cnt th (rowF w op tn pl en kd nb) as ln dr M0 M1 M2 M3 M4) (As := [.int (iI x)]) (rest := []) (r := bz (0 ≤ x ∧ x ≤ n)) (ci := 6) (q0 := 0) ⟨hx, hb, hml, hown, hts⟩ (c_X6_isGate n L a rn sp cnt th w op tn pl en kd nb as ln dr M0 M1 M2 M3 M4 x (by first | assumption | omega) (by first | assumption | omega) (by first | assumption | omega) (by first | assumption | omega)) (cwV 1 hts gX6_open_X6_isGate rfl rfl rfl (by decide +kernel) ⟨Nat.le_of_ble_eq_true rfl, Nat.le_of_ble_eq_true rfl⟩) hK hNW hP hD hS hA rfl rfl rfl rfl (by decide) rfl rfl rfl rfl rfl rfl hl.1 rfl (Nat.le_of_ble_eq_true rfl) dX6_open_2 ⟨Nat.zero_le _, Nat.zero_le _⟩ (fun H locs hP hD hS => ?_)
  refine li_top (b := 1) (bz_t (by exact hv)) ?_
  refine lv_istore_n (lv' := [(2, .int (iI 1)), (0, .ref M0), (1, .int (iI x))]) hx hb dX6_open_5 rfl hl (by decide) rfl (fun ls hl => ?_)
  refine lv_aload_n hx hb dX6_open_6 rfl (lv_at hl 1 rfl) ?_
  refine lv_iload_n hx hb dX6_open_7 rfl (lv_at hl 0 rfl) ?_
  refine lv_iload_n hx hb dX6_open_8 rfl (lv_at hl 0 rfl) ?_
  refine li_if_eq_f (tgt := 20) hx hb dX6_open_9 (by decide) (by decide) (by decide) ?_
  refine lv_aload_n hx hb dX6_open_12 rfl (lv_at hl 1 rfl) ?_
  refine lv_iload_n hx hb dX6_open_13 rfl (lv_at hl 2 rfl) ?_
  refine cl_i0 (isC := [0, 1, 2, 3, 4]) (isR := []) (isN := [0, 1, 2, 3, 4]) (wr := []) (wn := cMd cI n L a rn sp cnt th (rowF w op tn pl en kd nb) as ln dr M0 M1 M2 M3 M4) (As := [.int (iI x)]) (rest := [.int (iI 1), .ref M0]) (r := opO n L a w op tn x) (ci := 6) (q0 := 0) ⟨hx, hb, hml, hown, hts⟩ (c_X6_obstacleToOpen n L a rn sp cnt th w op tn pl en kd nb as ln dr M0 M1 M2 M3 M4 x (by first | assumption | omega) (by first | assumption | omega) (by first | assumption | omega) (by first | assumption | omega) (by first | assumption | omega) (by first | assumption | omega) (by first | assumption | omega) (by first | assumption | omega) (by first | assumption | omega)) (cwV 1 hts gX6_open_X6_obstacleToOpen rfl rfl rfl (by decide +kernel) ⟨Nat.le_of_ble_eq_true rfl, Nat.le_of_ble_eq_true rfl⟩) hK hNW hP hD hS hA rfl rfl rfl rfl (by decide) rfl rfl rfl rfl rfl rfl hl.1 rfl (Nat.le_of_ble_eq_true rfl) dX6_open_14 ⟨Nat.zero_le _, Nat.zero_le _⟩ (fun H locs hP hD hS => ?_)
  have hob := opO_b n L a w op tn x
  refine li_if_ne_f (tgt := 24) hx hb dX6_open_17 (by decide) (ib_i (by omega) (by omega)) (by exact hc) ?_
  refine li_const hx hb dX6_open_20 ?_
  refine lv_goto (tgt := 25) hx hb dX6_open_21 (by decide) ?_
  refine li_const hx hb dX6_open_25 ?_
  refine cl_i0 (isC := [0, 1, 2, 3, 4]) (isR := []) (isN := [0, 1, 2, 3, 4]) (wr := []) (wn := cMd cI n L a rn sp cnt (chA 1 1 1) (rowF w op tn pl en kd nb) as ln dr M0 M1 M2 M3 M4) (As := [.int (iI 1), .int (iI 1), .int (iI 1)]) (rest := []) (r := bz (chA 1 1 1 = 0)) (ci := 6) (q0 := 0) ⟨hx, hb, hml, hown, hts⟩ (c_X6_check n L a rn sp cnt th w op tn pl en kd nb as ln dr M0 M1 M2 M3 M4 1 1 1 (by first | decide | exact bz_01 _ | omega) (by first | decide | exact bz_01 _ | omega) (by first | decide | exact bz_01 _ | omega)) (cwV 3 hts gX6_open_X6_check rfl rfl rfl (by decide +kernel) ⟨Nat.le_of_ble_eq_true rfl, Nat.le_of_ble_eq_true rfl⟩) hK hNW hP hD hS hA rfl rfl rfl rfl (by decide) rfl rfl rfl rfl rfl rfl hl.1 rfl (Nat.le_of_ble_eq_true rfl) dX6_open_26 ⟨Nat.zero_le _, Nat.zero_le _⟩ (fun H locs hP hD hS => ?_)
  refine li_top (b := 1) rfl ?_
  refine li_if_ne_t (tgt := 34) hx hb dX6_open_29 (by decide) (by decide) (by decide) ?_
  refine lv_aload_n hx hb dX6_open_34 rfl (lv_at hl 1 rfl) ?_
  refine li_get (ci := 6) (v := .ref M1) (C := RX6) (T := TX6) (N := 11) (q0 := 0) (k := 5) hx hb hts hin_X6 hown hK hP rfl rfl (by decide) hf_9 rfl rfl dX6_open_35 ?_
  refine li_bipush hx hb dX6_open_38 (by decide) ?_
  refine lv_iload_n hx hb dX6_open_40 rfl (lv_at hl 2 rfl) ?_
  refine li_add hx hb dX6_open_41 ?_
  refine li_const hx hb dX6_open_42 ?_
  refine li_iast (q0 := 1) (t0 := 0) (g := (rowF w op tn pl en kd nb)) (w2 := cMd cI n L a rn sp cnt 0 (rowF w (upZ op x 1) tn pl en kd nb) as ln dr M0 M1 M2 M3 M4) hx hb hK hP hD hS rfl rfl (by omega) (by omega) (ib_i (by omega) (by omega)) dX6_open_43 (by rw [wr_o (c := x) (by omega) (by omega) (by omega)] <;> rfl) (fun H locs hP hD hS => ?_)
  refine li_const hx hb dX6_open_44 ?_
  refine lv_istore_n (lv' := [(3, .int (iI 0)), (2, .int (iI 1)), (0, .ref M0), (1, .int (iI x))]) hx hb dX6_open_45 rfl hl (by decide) rfl (fun ls hl => ?_)
  refine li_const hx hb dX6_open_46 ?_
  refine lv_istore (lv' := [(4, .int (iI 0)), (3, .int (iI 0)), (2, .int (iI 1)), (0, .ref M0), (1, .int (iI x))]) hx hb dX6_open_47 hl (by decide) rfl (fun ls hl => ?_)
  have loop_49 : ∀ (N : Nat) (j : Int) (sv : Int), (0 ≤ j ∧ j ≤ n + 1) → (sv = sumZ (upZ op x 1) j.toNat) → n + 1 - j < (N : Int) → ∀ (H : Heap) (locs : List Loc), va_P D vwCl (cMd cI n L a rn sp cnt 0 (rowF w (upZ op x 1) tn pl en kd nb) as ln dr M0 M1 M2 M3 M4) H → va_D A (cMd cI n L a rn sp cnt 0 (rowF w (upZ op x 1) tn pl en kd nb) as ln dr M0 M1 M2 M3 M4) → va_S A s.heap H locs → ∀ (ls : Array Slot), lv_has ls 5 [(4, .int (iI j)), (3, .int (iI sv)), (2, .int (iI 1)), (0, .ref M0), (1, .int (iI x))] → W p l e (rK 25 0 0) s mI args below meth c_0 H locs 0 0 Q (F0 mI 49 ls []) := by
    intro N
    induction N with
    | zero =>
      intro j sv hj hh hN
      exact absurd hN (by omega)
    | succ N ih =>
      intro j sv hj hh hN H locs hP hD hS ls hl
      refine lv_iload hx hb dX6_open_49 (lv_at hl 0 rfl) ?_
      refine lv_aload_n hx hb dX6_open_51 rfl (lv_at hl 3 rfl) ?_
      refine li_get (ci := 6) (v := .int (iI n)) (C := RX6) (T := TX6) (N := 11) (q0 := 0) (k := 0) hx hb hts hin_X6 hown hK hP rfl rfl (by decide) hf_26 rfl rfl dX6_open_52 ?_
      refine li_icmp_gt (tgt := 77) hx hb dX6_open_55 (by decide) (ib_i (by omega) (by omega)) (ib_i (by omega) (by omega)) (fun c_55 => ?_) (fun c_55 => ?_)
      · refine lv_iload_n hx hb dX6_open_77 rfl (lv_at hl 1 rfl) ?_
        exact li_iret () hx hb hr hlocks hK hP hD hS dX6_open_78 hQ rfl (congrArg iI (by rw [hh, show j = n + 1 by omega]; exact sumZ_tail hn (fun z hz => by rw [upZ_n _ _ _ (by omega)]; exact hoz z hz)))
      · refine lv_iload_n hx hb dX6_open_58 rfl (lv_at hl 1 rfl) ?_
        refine lv_aload_n hx hb dX6_open_59 rfl (lv_at hl 3 rfl) ?_
        refine li_get (ci := 6) (v := .ref M1) (C := RX6) (T := TX6) (N := 11) (q0 := 0) (k := 5) hx hb hts hin_X6 hown hK hP rfl rfl (by decide) hf_9 rfl rfl dX6_open_60 ?_
        refine li_bipush hx hb dX6_open_63 (by decide) ?_
        refine lv_iload hx hb dX6_open_65 (lv_at hl 0 rfl) ?_
        refine li_add hx hb dX6_open_67 ?_
        refine li_iald (q0 := 1) (t0 := 0) (g := (rowF w (upZ op x 1) tn pl en kd nb)) hx hb hK hP rfl rfl (by omega) (by omega) (ib_i (by omega) (by omega)) dX6_open_68 ?_
        refine li_top (b := (upZ op x 1) j) (rd_o (c := j) (by omega) (by omega) (by omega)) ?_
        refine li_add hx hb dX6_open_69 ?_
        refine lv_istore_n (lv' := [(3, .int (iI (sv + ((upZ op x 1) j)))), (4, .int (iI j)), (2, .int (iI 1)), (0, .ref M0), (1, .int (iI x))]) hx hb dX6_open_70 rfl hl (by decide) rfl (fun ls hl => ?_)
        refine li_inc (j := 1) (lv' := [(4, .int (iI (j + 1))), (3, .int (iI (sv + ((upZ op x 1) j)))), (2, .int (iI 1)), (0, .ref M0), (1, .int (iI x))]) hx hb dX6_open_71 hl rfl (by decide) rfl (fun ls hl => ?_)
        refine lv_goto (tgt := 49) hx hb dX6_open_74 (by decide) ?_
        exact ih (j + 1) (sv + ((upZ op x 1) j)) (by omega) (by rw [sumZ_s _ hj.1, hh]) (by omega) _ _ hP hD hS _ (lv_sub hl [0, 1, 2, 3, 4] rfl)
  exact loop_49 (((n + 1 - 0) : Int) + 1).toNat 0 0 (by omega) (by rfl) (by omega) _ _ hP hD hS _ (lv_sub hl [0, 1, 2, 3, 4] rfl)

set_option maxRecDepth 100000 in
set_option maxHeartbeats 4000000 in
theorem c_X6_open_no1 {l : Launch} {D : va_G} {cI cZ cJ : ClassId} (n : Int) (L : Int) (a : Int) (rn : Int) (sp : Int) (cnt : Int) (th : Int) (w : Wt) (op : Int → Int) (tn : Int → Int) (pl : Int → Int) (en : Int) (kd : Int → Int) (nb : Int → Int) (as : Int → Int) (ln : Int → Int) (dr : Int → Int) (M0 M1 M2 M3 M4 : Nat) (x : Int) (hn : 1 ≤ n ∧ n ≤ 6) (hL : 5 ≤ L ∧ L ≤ 40) (ha : 1 ≤ a ∧ a ≤ 50) (hw : WI n L a w) (hop : opB op) (hoz : ∀ g, n < g → op g = 0) (htn : tnB tn) (htz : ∀ g, n < g → tn g = 0) (i_x : -2147483648 ≤ x ∧ x < 2147483648) (hv : ¬ (0 ≤ x ∧ x ≤ n)) : Di l yX6_open wsX6_open 25 [.ref M0, .int (iI x)] D (ty3 cI cZ cJ) (cMd cI n L a rn sp cnt th (rowF w op tn pl en kd nb) as ln dr M0 M1 M2 M3 M4) (0) (cMd cI n L a rn sp cnt 1 (rowF w op tn pl en kd nb) as ln dr M0 M1 M2 M3 M4) := by
  refine ct_i (plainFor_of_name (by decide)) rfl (Nat.le_of_ble_eq_true rfl) ?_
  intro p e s mI args below meth c_0 ls A hx hb hr hml hts hown hlocks hin hA hP hK hD hNW hS hl Q hQ
  have hown : s.vm.findClass RX6 = some mI.cls := hown
  have hl : lv_has ls 5 [(0, .ref M0), (1, .int (iI x))] := hl
  refine lv_aload_n hx hb dX6_open_0 rfl (lv_at hl 0 rfl) ?_
  refine lv_iload_n hx hb dX6_open_1 rfl (lv_at hl 1 rfl) ?_
  refine cl_i0 (isC := [0, 1, 2, 3, 4]) (isR := []) (isN := [0, 1, 2, 3, 4]) (wr := []) (wn := cMd cI n L a rn sp cnt th (rowF w op tn pl en kd nb) as ln dr M0 M1 M2 M3 M4) (As := [.int (iI x)]) (rest := []) (r := bz (0 ≤ x ∧ x ≤ n)) (ci := 6) (q0 := 0) ⟨hx, hb, hml, hown, hts⟩ (c_X6_isGate n L a rn sp cnt th w op tn pl en kd nb as ln dr M0 M1 M2 M3 M4 x (by first | assumption | omega) (by first | assumption | omega) (by first | assumption | omega) (by first | assumption | omega)) (cwV 1 hts gX6_open_X6_isGate rfl rfl rfl (by decide +kernel) ⟨Nat.le_of_ble_eq_true rfl, Nat.le_of_ble_eq_true rfl⟩) hK hNW hP hD hS hA rfl rfl rfl rfl (by decide) rfl rfl rfl rfl rfl rfl hl.1 rfl (Nat.le_of_ble_eq_true rfl) dX6_open_2 ⟨Nat.zero_le _, Nat.zero_le _⟩ (fun H locs hP hD hS => ?_)
  refine li_top (b := 0) (bz_f (by exact hv)) ?_
  refine lv_istore_n (lv' := [(2, .int (iI 0)), (0, .ref M0), (1, .int (iI x))]) hx hb dX6_open_5 rfl hl (by decide) rfl (fun ls hl => ?_)
  refine lv_aload_n hx hb dX6_open_6 rfl (lv_at hl 1 rfl) ?_
  refine lv_iload_n hx hb dX6_open_7 rfl (lv_at hl 0 rfl) ?_
  refine lv_iload_n hx hb dX6_open_8 rfl (lv_at hl 0 rfl) ?_
  refine li_if_eq_t (tgt := 20) hx hb dX6_open_9 (by decide) (by decide) (by decide) ?_
  refine li_const hx hb dX6_open_20 ?_
  refine lv_goto (tgt := 25) hx hb dX6_open_21 (by decide) ?_
  refine li_const hx hb dX6_open_25 ?_
  refine cl_i0 (isC := [0, 1, 2, 3, 4]) (isR := []) (isN := [0, 1, 2, 3, 4]) (wr := []) (wn := cMd cI n L a rn sp cnt (chA 0 1 1) (rowF w op tn pl en kd nb) as ln dr M0 M1 M2 M3 M4) (As := [.int (iI 0), .int (iI 1), .int (iI 1)]) (rest := []) (r := bz (chA 0 1 1 = 0)) (ci := 6) (q0 := 0) ⟨hx, hb, hml, hown, hts⟩ (c_X6_check n L a rn sp cnt th w op tn pl en kd nb as ln dr M0 M1 M2 M3 M4 0 1 1 (by first | decide | exact bz_01 _ | omega) (by first | decide | exact bz_01 _ | omega) (by first | decide | exact bz_01 _ | omega)) (cwV 3 hts gX6_open_X6_check rfl rfl rfl (by decide +kernel) ⟨Nat.le_of_ble_eq_true rfl, Nat.le_of_ble_eq_true rfl⟩) hK hNW hP hD hS hA rfl rfl rfl rfl (by decide) rfl rfl rfl rfl rfl rfl hl.1 rfl (Nat.le_of_ble_eq_true rfl) dX6_open_26 ⟨Nat.zero_le _, Nat.zero_le _⟩ (fun H locs hP hD hS => ?_)
  refine li_top (b := 0) rfl ?_
  refine li_if_ne_f (tgt := 34) hx hb dX6_open_29 (by decide) (by decide) (by decide) ?_
  refine li_const hx hb dX6_open_32 ?_
  exact li_iret () hx hb hr hlocks hK hP hD hS dX6_open_33 hQ rfl (congrArg iI (rfl))

set_option maxRecDepth 100000 in
set_option maxHeartbeats 4000000 in
theorem c_X6_open_no2 {l : Launch} {D : va_G} {cI cZ cJ : ClassId} (n : Int) (L : Int) (a : Int) (rn : Int) (sp : Int) (cnt : Int) (th : Int) (w : Wt) (op : Int → Int) (tn : Int → Int) (pl : Int → Int) (en : Int) (kd : Int → Int) (nb : Int → Int) (as : Int → Int) (ln : Int → Int) (dr : Int → Int) (M0 M1 M2 M3 M4 : Nat) (x : Int) (hn : 1 ≤ n ∧ n ≤ 6) (hL : 5 ≤ L ∧ L ≤ 40) (ha : 1 ≤ a ∧ a ≤ 50) (hw : WI n L a w) (hop : opB op) (hoz : ∀ g, n < g → op g = 0) (htn : tnB tn) (htz : ∀ g, n < g → tn g = 0) (i_x : -2147483648 ≤ x ∧ x < 2147483648) (hv : 0 ≤ x ∧ x ≤ n) (hc : opO n L a w op tn x ≠ 0) : Di l yX6_open wsX6_open 25 [.ref M0, .int (iI x)] D (ty3 cI cZ cJ) (cMd cI n L a rn sp cnt th (rowF w op tn pl en kd nb) as ln dr M0 M1 M2 M3 M4) (0) (cMd cI n L a rn sp cnt 2 (rowF w op tn pl en kd nb) as ln dr M0 M1 M2 M3 M4) := by
  refine ct_i (plainFor_of_name (by decide)) rfl (Nat.le_of_ble_eq_true rfl) ?_
  intro p e s mI args below meth c_0 ls A hx hb hr hml hts hown hlocks hin hA hP hK hD hNW hS hl Q hQ
  have hown : s.vm.findClass RX6 = some mI.cls := hown
  have hl : lv_has ls 5 [(0, .ref M0), (1, .int (iI x))] := hl
  refine lv_aload_n hx hb dX6_open_0 rfl (lv_at hl 0 rfl) ?_
  refine lv_iload_n hx hb dX6_open_1 rfl (lv_at hl 1 rfl) ?_
  refine cl_i0 (isC := [0, 1, 2, 3, 4]) (isR := []) (isN := [0, 1, 2, 3, 4]) (wr := []) (wn := cMd cI n L a rn sp cnt th (rowF w op tn pl en kd nb) as ln dr M0 M1 M2 M3 M4) (As := [.int (iI x)]) (rest := []) (r := bz (0 ≤ x ∧ x ≤ n)) (ci := 6) (q0 := 0) ⟨hx, hb, hml, hown, hts⟩ (c_X6_isGate n L a rn sp cnt th w op tn pl en kd nb as ln dr M0 M1 M2 M3 M4 x (by first | assumption | omega) (by first | assumption | omega) (by first | assumption | omega) (by first | assumption | omega)) (cwV 1 hts gX6_open_X6_isGate rfl rfl rfl (by decide +kernel) ⟨Nat.le_of_ble_eq_true rfl, Nat.le_of_ble_eq_true rfl⟩) hK hNW hP hD hS hA rfl rfl rfl rfl (by decide) rfl rfl rfl rfl rfl rfl hl.1 rfl (Nat.le_of_ble_eq_true rfl) dX6_open_2 ⟨Nat.zero_le _, Nat.zero_le _⟩ (fun H locs hP hD hS => ?_)
  refine li_top (b := 1) (bz_t (by exact hv)) ?_
  refine lv_istore_n (lv' := [(2, .int (iI 1)), (0, .ref M0), (1, .int (iI x))]) hx hb dX6_open_5 rfl hl (by decide) rfl (fun ls hl => ?_)
  refine lv_aload_n hx hb dX6_open_6 rfl (lv_at hl 1 rfl) ?_
  refine lv_iload_n hx hb dX6_open_7 rfl (lv_at hl 0 rfl) ?_
  refine lv_iload_n hx hb dX6_open_8 rfl (lv_at hl 0 rfl) ?_
  refine li_if_eq_f (tgt := 20) hx hb dX6_open_9 (by decide) (by decide) (by decide) ?_
  refine lv_aload_n hx hb dX6_open_12 rfl (lv_at hl 1 rfl) ?_
  refine lv_iload_n hx hb dX6_open_13 rfl (lv_at hl 2 rfl) ?_
  refine cl_i0 (isC := [0, 1, 2, 3, 4]) (isR := []) (isN := [0, 1, 2, 3, 4]) (wr := []) (wn := cMd cI n L a rn sp cnt th (rowF w op tn pl en kd nb) as ln dr M0 M1 M2 M3 M4) (As := [.int (iI x)]) (rest := [.int (iI 1), .ref M0]) (r := opO n L a w op tn x) (ci := 6) (q0 := 0) ⟨hx, hb, hml, hown, hts⟩ (c_X6_obstacleToOpen n L a rn sp cnt th w op tn pl en kd nb as ln dr M0 M1 M2 M3 M4 x (by first | assumption | omega) (by first | assumption | omega) (by first | assumption | omega) (by first | assumption | omega) (by first | assumption | omega) (by first | assumption | omega) (by first | assumption | omega) (by first | assumption | omega) (by first | assumption | omega)) (cwV 1 hts gX6_open_X6_obstacleToOpen rfl rfl rfl (by decide +kernel) ⟨Nat.le_of_ble_eq_true rfl, Nat.le_of_ble_eq_true rfl⟩) hK hNW hP hD hS hA rfl rfl rfl rfl (by decide) rfl rfl rfl rfl rfl rfl hl.1 rfl (Nat.le_of_ble_eq_true rfl) dX6_open_14 ⟨Nat.zero_le _, Nat.zero_le _⟩ (fun H locs hP hD hS => ?_)
  have hob := opO_b n L a w op tn x
  refine li_if_ne_t (tgt := 24) hx hb dX6_open_17 (by decide) (ib_i (by omega) (by omega)) (by exact hc) ?_
  refine li_const hx hb dX6_open_24 ?_
  refine li_const hx hb dX6_open_25 ?_
  refine cl_i0 (isC := [0, 1, 2, 3, 4]) (isR := []) (isN := [0, 1, 2, 3, 4]) (wr := []) (wn := cMd cI n L a rn sp cnt (chA 1 0 1) (rowF w op tn pl en kd nb) as ln dr M0 M1 M2 M3 M4) (As := [.int (iI 1), .int (iI 0), .int (iI 1)]) (rest := []) (r := bz (chA 1 0 1 = 0)) (ci := 6) (q0 := 0) ⟨hx, hb, hml, hown, hts⟩ (c_X6_check n L a rn sp cnt th w op tn pl en kd nb as ln dr M0 M1 M2 M3 M4 1 0 1 (by first | decide | exact bz_01 _ | omega) (by first | decide | exact bz_01 _ | omega) (by first | decide | exact bz_01 _ | omega)) (cwV 3 hts gX6_open_X6_check rfl rfl rfl (by decide +kernel) ⟨Nat.le_of_ble_eq_true rfl, Nat.le_of_ble_eq_true rfl⟩) hK hNW hP hD hS hA rfl rfl rfl rfl (by decide) rfl rfl rfl rfl rfl rfl hl.1 rfl (Nat.le_of_ble_eq_true rfl) dX6_open_26 ⟨Nat.zero_le _, Nat.zero_le _⟩ (fun H locs hP hD hS => ?_)
  refine li_top (b := 0) rfl ?_
  refine li_if_ne_f (tgt := 34) hx hb dX6_open_29 (by decide) (by decide) (by decide) ?_
  refine li_const hx hb dX6_open_32 ?_
  exact li_iret () hx hb hr hlocks hK hP hD hS dX6_open_33 hQ rfl (congrArg iI (rfl))

set_option maxRecDepth 100000 in
set_option maxHeartbeats 4000000 in
theorem c_X6_wind_ok {l : Launch} {D : va_G} {cI cZ cJ : ClassId} (n : Int) (L : Int) (a : Int) (rn : Int) (sp : Int) (cnt : Int) (th : Int) (w : Wt) (op : Int → Int) (tn : Int → Int) (pl : Int → Int) (en : Int) (kd : Int → Int) (nb : Int → Int) (as : Int → Int) (ln : Int → Int) (dr : Int → Int) (M0 M1 M2 M3 M4 : Nat) (x : Int) (y : Int) (hn : 1 ≤ n ∧ n ≤ 6) (hL : 5 ≤ L ∧ L ≤ 40) (ha : 1 ≤ a ∧ a ≤ 50) (hop : opB op) (hoz : ∀ g, n < g → op g = 0) (htn : tnB tn) (i_x : -2147483648 ≤ x ∧ x < 2147483648) (i_y : -2147483648 ≤ y ∧ y < 2147483648) (hv : 0 ≤ x ∧ x ≤ n) (hy2 : 0 ≤ y ∧ y ≤ 5) (hb9 : y = 0 ∨ ¬ beO op x = true) : Di l yX6_wind wsX6_wind 25 [.ref M0, .int (iI x), .int (iI y)] D (ty3 cI cZ cJ) (cMd cI n L a rn sp cnt th (rowF w op tn pl en kd nb) as ln dr M0 M1 M2 M3 M4) (tnA tn x) (cMd cI n L a rn sp cnt 0 (rowF w op (upZ tn x y) pl en kd nb) as ln dr M0 M1 M2 M3 M4) := by
  refine ct_i (plainFor_of_name (by decide)) rfl (Nat.le_of_ble_eq_true rfl) ?_
  intro p e s mI args below meth c_0 ls A hx hb hr hml hts hown hlocks hin hA hP hK hD hNW hS hl Q hQ
  have hown : s.vm.findClass RX6 = some mI.cls := hown
  have hl : lv_has ls 5 [(0, .ref M0), (1, .int (iI x)), (2, .int (iI y))] := hl
  have hin_X6 : ∀ w ∈ wsX60, w ∈ wsX6_wind := by decide +kernel
  have hf_9 := hts (.fieldLink RX6 9 "LockStaircaseModel" "row" "[I") (by decide +kernel)
  refine lv_aload_n hx hb dX6_wind_0 rfl (lv_at hl 0 rfl) ?_
  refine lv_iload_n hx hb dX6_wind_1 rfl (lv_at hl 1 rfl) ?_
  refine cl_i0 (isC := [0, 1, 2, 3, 4]) (isR := []) (isN := [0, 1, 2, 3, 4]) (wr := []) (wn := cMd cI n L a rn sp cnt th (rowF w op tn pl en kd nb) as ln dr M0 M1 M2 M3 M4) (As := [.int (iI x)]) (rest := []) (r := bz (isO op x = true)) (ci := 6) (q0 := 0) ⟨hx, hb, hml, hown, hts⟩ (c_X6_isOpenGate n L a rn sp cnt th w op tn pl en kd nb as ln dr M0 M1 M2 M3 M4 x (by first | assumption | omega) (by first | assumption | omega) (by first | assumption | omega) (by first | assumption | omega) (by first | assumption | omega) (by first | assumption | omega)) (cwV 1 hts gX6_wind_X6_isOpenGate rfl rfl rfl (by decide +kernel) ⟨Nat.le_of_ble_eq_true rfl, Nat.le_of_ble_eq_true rfl⟩) hK hNW hP hD hS hA rfl rfl rfl rfl (by decide) rfl rfl rfl rfl rfl rfl hl.1 rfl (Nat.le_of_ble_eq_true rfl) dX6_wind_2 ⟨Nat.zero_le _, Nat.zero_le _⟩ (fun H locs hP hD hS => ?_)
  refine li_ifb_ne (tgt := 28) hx hb dX6_wind_5 (by decide) (fun c_5 => ?_) (fun c_5 => ?_)
  · refine li_const hx hb dX6_wind_28 ?_
    refine lv_goto (tgt := 33) hx hb dX6_wind_29 (by decide) ?_
    refine lv_istore_n (lv' := [(3, .int (iI 1)), (0, .ref M0), (1, .int (iI x)), (2, .int (iI y))]) hx hb dX6_wind_33 rfl hl (by decide) rfl (fun ls hl => ?_)
    refine lv_aload_n hx hb dX6_wind_34 rfl (lv_at hl 1 rfl) ?_
    refine lv_aload_n hx hb dX6_wind_35 rfl (lv_at hl 1 rfl) ?_
    refine lv_iload_n hx hb dX6_wind_36 rfl (lv_at hl 2 rfl) ?_
    refine cl_i0 (isC := [0, 1, 2, 3, 4]) (isR := []) (isN := [0, 1, 2, 3, 4]) (wr := []) (wn := cMd cI n L a rn sp cnt th (rowF w op tn pl en kd nb) as ln dr M0 M1 M2 M3 M4) (As := [.int (iI x)]) (rest := [.ref M0]) (r := bz (0 ≤ x ∧ x ≤ n)) (ci := 6) (q0 := 0) ⟨hx, hb, hml, hown, hts⟩ (c_X6_isGate n L a rn sp cnt th w op tn pl en kd nb as ln dr M0 M1 M2 M3 M4 x (by first | assumption | omega) (by first | assumption | omega) (by first | assumption | omega) (by first | assumption | omega)) (cwV 1 hts gX6_wind_X6_isGate rfl rfl rfl (by decide +kernel) ⟨Nat.le_of_ble_eq_true rfl, Nat.le_of_ble_eq_true rfl⟩) hK hNW hP hD hS hA rfl rfl rfl rfl (by decide) rfl rfl rfl rfl rfl rfl hl.1 rfl (Nat.le_of_ble_eq_true rfl) dX6_wind_37 ⟨Nat.zero_le _, Nat.zero_le _⟩ (fun H locs hP hD hS => ?_)
    refine li_top (b := 1) (bz_t (by exact hv)) ?_
    refine lv_iload_n hx hb dX6_wind_40 rfl (lv_at hl 3 rfl) ?_
    refine li_const hx hb dX6_wind_41 ?_
    refine li_const hx hb dX6_wind_42 ?_
    refine cs_i0 (isC := []) (isR := [0, 1, 2, 3, 4]) (isN := [0, 1, 2, 3, 4]) (wr := cMd cI n L a rn sp cnt th (rowF w op tn pl en kd nb) as ln dr M0 M1 M2 M3 M4) (wn := cMd cI n L a rn sp cnt th (rowF w op tn pl en kd nb) as ln dr M0 M1 M2 M3 M4) (As := [.int (iI y), .int (iI 0), .int (iI 5)]) (rest := [.int (iI 1), .ref M0]) (r := bz (0 ≤ y ∧ y ≤ 5)) ⟨hx, hb, hml, hown, hts⟩ (c_X6_isWithin y 0 5 (by first | assumption | omega) (by first | assumption | omega) (by first | assumption | omega)) (va_cwS 3 hts gX6_wind_X6_isWithin rfl rfl rfl (by decide +kernel) ⟨Nat.le_of_ble_eq_true rfl, Nat.le_of_ble_eq_true rfl⟩) hK hNW hP hD hS hA rfl rfl rfl rfl (by decide) rfl rfl rfl hl.1 rfl (Nat.le_of_ble_eq_true rfl) dX6_wind_43 ⟨Nat.zero_le _, Nat.zero_le _⟩ (fun H locs hP hD hS => ?_)
    refine li_top (b := 1) (bz_t (by exact hy2)) ?_
    refine lv_iload_n hx hb dX6_wind_46 rfl (lv_at hl 3 rfl) ?_
    refine li_if_eq (tgt := 54) hx hb dX6_wind_47 (by decide) (ib_i (by omega) (by omega)) (fun c_47 => ?_) (fun c_47 => ?_)
    · refine li_const hx hb dX6_wind_54 ?_
      refine lv_goto (tgt := 59) hx hb dX6_wind_55 (by decide) ?_
      refine cl_i0 (isC := [0, 1, 2, 3, 4]) (isR := []) (isN := [0, 1, 2, 3, 4]) (wr := []) (wn := cMd cI n L a rn sp cnt (chA 1 1 1) (rowF w op tn pl en kd nb) as ln dr M0 M1 M2 M3 M4) (As := [.int (iI 1), .int (iI 1), .int (iI 1)]) (rest := []) (r := bz (chA 1 1 1 = 0)) (ci := 6) (q0 := 0) ⟨hx, hb, hml, hown, hts⟩ (c_X6_check n L a rn sp cnt th w op tn pl en kd nb as ln dr M0 M1 M2 M3 M4 1 1 1 (by first | decide | exact bz_01 _ | omega) (by first | decide | exact bz_01 _ | omega) (by first | decide | exact bz_01 _ | omega)) (cwV 3 hts gX6_wind_X6_check rfl rfl rfl (by decide +kernel) ⟨Nat.le_of_ble_eq_true rfl, Nat.le_of_ble_eq_true rfl⟩) hK hNW hP hD hS hA rfl rfl rfl rfl (by decide) rfl rfl rfl rfl rfl rfl hl.1 rfl (Nat.le_of_ble_eq_true rfl) dX6_wind_59 ⟨Nat.zero_le _, Nat.zero_le _⟩ (fun H locs hP hD hS => ?_)
      refine li_top (b := 1) rfl ?_
      refine li_if_ne_t (tgt := 67) hx hb dX6_wind_62 (by decide) (by decide) (by decide) ?_
      refine lv_aload_n hx hb dX6_wind_67 rfl (lv_at hl 1 rfl) ?_
      refine li_get (ci := 6) (v := .ref M1) (C := RX6) (T := TX6) (N := 11) (q0 := 0) (k := 5) hx hb hts hin_X6 hown hK hP rfl rfl (by decide) hf_9 rfl rfl dX6_wind_68 ?_
      refine li_bipush hx hb dX6_wind_71 (by decide) ?_
      refine lv_iload_n hx hb dX6_wind_73 rfl (lv_at hl 2 rfl) ?_
      refine li_add hx hb dX6_wind_74 ?_
      refine li_iald (q0 := 1) (t0 := 0) (g := (rowF w op tn pl en kd nb)) hx hb hK hP rfl rfl (by omega) (by omega) (ib_i (by omega) (by omega)) dX6_wind_75 ?_
      refine li_top (b := tn x) (rd_t (c := x) (by omega) (by omega) (by omega)) ?_
      refine lv_istore (lv' := [(4, .int (iI (tn x))), (3, .int (iI 1)), (0, .ref M0), (1, .int (iI x)), (2, .int (iI y))]) hx hb dX6_wind_76 hl (by decide) rfl (fun ls hl => ?_)
      refine lv_aload_n hx hb dX6_wind_78 rfl (lv_at hl 2 rfl) ?_
      refine li_get (ci := 6) (v := .ref M1) (C := RX6) (T := TX6) (N := 11) (q0 := 0) (k := 5) hx hb hts hin_X6 hown hK hP rfl rfl (by decide) hf_9 rfl rfl dX6_wind_79 ?_
      refine li_bipush hx hb dX6_wind_82 (by decide) ?_
      refine lv_iload_n hx hb dX6_wind_84 rfl (lv_at hl 3 rfl) ?_
      refine li_add hx hb dX6_wind_85 ?_
      refine lv_iload_n hx hb dX6_wind_86 rfl (lv_at hl 4 rfl) ?_
      refine li_iast (q0 := 1) (t0 := 0) (g := (rowF w op tn pl en kd nb)) (w2 := cMd cI n L a rn sp cnt 0 (rowF w op (upZ tn x y) pl en kd nb) as ln dr M0 M1 M2 M3 M4) hx hb hK hP hD hS rfl rfl (by omega) (by omega) (ib_i (by omega) (by omega)) dX6_wind_87 (by rw [wr_t (c := x) (by omega) (by omega) (by omega)] <;> rfl) (fun H locs hP hD hS => ?_)
      refine lv_iload hx hb dX6_wind_88 (lv_at hl 0 rfl) ?_
      exact li_iret () hx hb hr hlocks hK hP hD hS dX6_wind_90 hQ rfl (congrArg iI (by unfold tnA; rw [if_pos (by omega)]))
    · refine lv_iload_n hx hb dX6_wind_50 rfl (lv_at hl 0 rfl) ?_
      refine li_if_ne_t (tgt := 58) hx hb dX6_wind_51 (by decide) (by decide) (by decide) ?_
      refine li_const hx hb dX6_wind_58 ?_
      refine cl_i0 (isC := [0, 1, 2, 3, 4]) (isR := []) (isN := [0, 1, 2, 3, 4]) (wr := []) (wn := cMd cI n L a rn sp cnt (chA 1 1 0) (rowF w op tn pl en kd nb) as ln dr M0 M1 M2 M3 M4) (As := [.int (iI 1), .int (iI 1), .int (iI 0)]) (rest := []) (r := bz (chA 1 1 0 = 0)) (ci := 6) (q0 := 0) ⟨hx, hb, hml, hown, hts⟩ (c_X6_check n L a rn sp cnt th w op tn pl en kd nb as ln dr M0 M1 M2 M3 M4 1 1 0 (by first | decide | exact bz_01 _ | omega) (by first | decide | exact bz_01 _ | omega) (by first | decide | exact bz_01 _ | omega)) (cwV 3 hts gX6_wind_X6_check rfl rfl rfl (by decide +kernel) ⟨Nat.le_of_ble_eq_true rfl, Nat.le_of_ble_eq_true rfl⟩) hK hNW hP hD hS hA rfl rfl rfl rfl (by decide) rfl rfl rfl rfl rfl rfl hl.1 rfl (Nat.le_of_ble_eq_true rfl) dX6_wind_59 ⟨Nat.zero_le _, Nat.zero_le _⟩ (fun H locs hP hD hS => ?_)
      refine li_top (b := 0) rfl ?_
      refine li_if_ne_f (tgt := 67) hx hb dX6_wind_62 (by decide) (by decide) (by decide) ?_
      refine li_const hx hb dX6_wind_65 ?_
      exact li_iret () hx hb hr hlocks hK hP hD hS dX6_wind_66 hQ (by exfalso; rcases hb9 with h | h; exact absurd h c_47; exact h (by unfold beO; simp only [Bool.or_eq_true]; first | exact Or.inl (Or.inl (by assumption)) | exact Or.inl (Or.inr (by assumption)) | exact Or.inr (by assumption))) (congrArg iI (by exfalso; rcases hb9 with h | h; exact absurd h c_47; exact h (by unfold beO; simp only [Bool.or_eq_true]; first | exact Or.inl (Or.inl (by assumption)) | exact Or.inl (Or.inr (by assumption)) | exact Or.inr (by assumption))))
  · refine lv_aload_n hx hb dX6_wind_8 rfl (lv_at hl 0 rfl) ?_
    refine lv_iload_n hx hb dX6_wind_9 rfl (lv_at hl 1 rfl) ?_
    refine li_const hx hb dX6_wind_10 ?_
    refine li_sub hx hb dX6_wind_11 ?_
    refine cl_i0 (isC := [0, 1, 2, 3, 4]) (isR := []) (isN := [0, 1, 2, 3, 4]) (wr := []) (wn := cMd cI n L a rn sp cnt th (rowF w op tn pl en kd nb) as ln dr M0 M1 M2 M3 M4) (As := [.int (iI (x - 1))]) (rest := []) (r := bz (isO op (x - 1) = true)) (ci := 6) (q0 := 0) ⟨hx, hb, hml, hown, hts⟩ (c_X6_isOpenGate n L a rn sp cnt th w op tn pl en kd nb as ln dr M0 M1 M2 M3 M4 (x - 1) (by first | assumption | omega) (by first | assumption | omega) (by first | assumption | omega) (by first | assumption | omega) (by first | assumption | omega) (by first | assumption | omega)) (cwV 1 hts gX6_wind_X6_isOpenGate rfl rfl rfl (by decide +kernel) ⟨Nat.le_of_ble_eq_true rfl, Nat.le_of_ble_eq_true rfl⟩) hK hNW hP hD hS hA rfl rfl rfl rfl (by decide) rfl rfl rfl rfl rfl rfl hl.1 rfl (Nat.le_of_ble_eq_true rfl) dX6_wind_12 ⟨Nat.zero_le _, Nat.zero_le _⟩ (fun H locs hP hD hS => ?_)
    refine li_ifb_ne (tgt := 28) hx hb dX6_wind_15 (by decide) (fun c_15 => ?_) (fun c_15 => ?_)
    · refine li_const hx hb dX6_wind_28 ?_
      refine lv_goto (tgt := 33) hx hb dX6_wind_29 (by decide) ?_
      refine lv_istore_n (lv' := [(3, .int (iI 1)), (0, .ref M0), (1, .int (iI x)), (2, .int (iI y))]) hx hb dX6_wind_33 rfl hl (by decide) rfl (fun ls hl => ?_)
      refine lv_aload_n hx hb dX6_wind_34 rfl (lv_at hl 1 rfl) ?_
      refine lv_aload_n hx hb dX6_wind_35 rfl (lv_at hl 1 rfl) ?_
      refine lv_iload_n hx hb dX6_wind_36 rfl (lv_at hl 2 rfl) ?_
      refine cl_i0 (isC := [0, 1, 2, 3, 4]) (isR := []) (isN := [0, 1, 2, 3, 4]) (wr := []) (wn := cMd cI n L a rn sp cnt th (rowF w op tn pl en kd nb) as ln dr M0 M1 M2 M3 M4) (As := [.int (iI x)]) (rest := [.ref M0]) (r := bz (0 ≤ x ∧ x ≤ n)) (ci := 6) (q0 := 0) ⟨hx, hb, hml, hown, hts⟩ (c_X6_isGate n L a rn sp cnt th w op tn pl en kd nb as ln dr M0 M1 M2 M3 M4 x (by first | assumption | omega) (by first | assumption | omega) (by first | assumption | omega) (by first | assumption | omega)) (cwV 1 hts gX6_wind_X6_isGate rfl rfl rfl (by decide +kernel) ⟨Nat.le_of_ble_eq_true rfl, Nat.le_of_ble_eq_true rfl⟩) hK hNW hP hD hS hA rfl rfl rfl rfl (by decide) rfl rfl rfl rfl rfl rfl hl.1 rfl (Nat.le_of_ble_eq_true rfl) dX6_wind_37 ⟨Nat.zero_le _, Nat.zero_le _⟩ (fun H locs hP hD hS => ?_)
      refine li_top (b := 1) (bz_t (by exact hv)) ?_
      refine lv_iload_n hx hb dX6_wind_40 rfl (lv_at hl 3 rfl) ?_
      refine li_const hx hb dX6_wind_41 ?_
      refine li_const hx hb dX6_wind_42 ?_
      refine cs_i0 (isC := []) (isR := [0, 1, 2, 3, 4]) (isN := [0, 1, 2, 3, 4]) (wr := cMd cI n L a rn sp cnt th (rowF w op tn pl en kd nb) as ln dr M0 M1 M2 M3 M4) (wn := cMd cI n L a rn sp cnt th (rowF w op tn pl en kd nb) as ln dr M0 M1 M2 M3 M4) (As := [.int (iI y), .int (iI 0), .int (iI 5)]) (rest := [.int (iI 1), .ref M0]) (r := bz (0 ≤ y ∧ y ≤ 5)) ⟨hx, hb, hml, hown, hts⟩ (c_X6_isWithin y 0 5 (by first | assumption | omega) (by first | assumption | omega) (by first | assumption | omega)) (va_cwS 3 hts gX6_wind_X6_isWithin rfl rfl rfl (by decide +kernel) ⟨Nat.le_of_ble_eq_true rfl, Nat.le_of_ble_eq_true rfl⟩) hK hNW hP hD hS hA rfl rfl rfl rfl (by decide) rfl rfl rfl hl.1 rfl (Nat.le_of_ble_eq_true rfl) dX6_wind_43 ⟨Nat.zero_le _, Nat.zero_le _⟩ (fun H locs hP hD hS => ?_)
      refine li_top (b := 1) (bz_t (by exact hy2)) ?_
      refine lv_iload_n hx hb dX6_wind_46 rfl (lv_at hl 3 rfl) ?_
      refine li_if_eq (tgt := 54) hx hb dX6_wind_47 (by decide) (ib_i (by omega) (by omega)) (fun c_47 => ?_) (fun c_47 => ?_)
      · refine li_const hx hb dX6_wind_54 ?_
        refine lv_goto (tgt := 59) hx hb dX6_wind_55 (by decide) ?_
        refine cl_i0 (isC := [0, 1, 2, 3, 4]) (isR := []) (isN := [0, 1, 2, 3, 4]) (wr := []) (wn := cMd cI n L a rn sp cnt (chA 1 1 1) (rowF w op tn pl en kd nb) as ln dr M0 M1 M2 M3 M4) (As := [.int (iI 1), .int (iI 1), .int (iI 1)]) (rest := []) (r := bz (chA 1 1 1 = 0)) (ci := 6) (q0 := 0) ⟨hx, hb, hml, hown, hts⟩ (c_X6_check n L a rn sp cnt th w op tn pl en kd nb as ln dr M0 M1 M2 M3 M4 1 1 1 (by first | decide | exact bz_01 _ | omega) (by first | decide | exact bz_01 _ | omega) (by first | decide | exact bz_01 _ | omega)) (cwV 3 hts gX6_wind_X6_check rfl rfl rfl (by decide +kernel) ⟨Nat.le_of_ble_eq_true rfl, Nat.le_of_ble_eq_true rfl⟩) hK hNW hP hD hS hA rfl rfl rfl rfl (by decide) rfl rfl rfl rfl rfl rfl hl.1 rfl (Nat.le_of_ble_eq_true rfl) dX6_wind_59 ⟨Nat.zero_le _, Nat.zero_le _⟩ (fun H locs hP hD hS => ?_)
        refine li_top (b := 1) rfl ?_
        refine li_if_ne_t (tgt := 67) hx hb dX6_wind_62 (by decide) (by decide) (by decide) ?_
        refine lv_aload_n hx hb dX6_wind_67 rfl (lv_at hl 1 rfl) ?_
        refine li_get (ci := 6) (v := .ref M1) (C := RX6) (T := TX6) (N := 11) (q0 := 0) (k := 5) hx hb hts hin_X6 hown hK hP rfl rfl (by decide) hf_9 rfl rfl dX6_wind_68 ?_
        refine li_bipush hx hb dX6_wind_71 (by decide) ?_
        refine lv_iload_n hx hb dX6_wind_73 rfl (lv_at hl 2 rfl) ?_
        refine li_add hx hb dX6_wind_74 ?_
        refine li_iald (q0 := 1) (t0 := 0) (g := (rowF w op tn pl en kd nb)) hx hb hK hP rfl rfl (by omega) (by omega) (ib_i (by omega) (by omega)) dX6_wind_75 ?_
        refine li_top (b := tn x) (rd_t (c := x) (by omega) (by omega) (by omega)) ?_
        refine lv_istore (lv' := [(4, .int (iI (tn x))), (3, .int (iI 1)), (0, .ref M0), (1, .int (iI x)), (2, .int (iI y))]) hx hb dX6_wind_76 hl (by decide) rfl (fun ls hl => ?_)
        refine lv_aload_n hx hb dX6_wind_78 rfl (lv_at hl 2 rfl) ?_
        refine li_get (ci := 6) (v := .ref M1) (C := RX6) (T := TX6) (N := 11) (q0 := 0) (k := 5) hx hb hts hin_X6 hown hK hP rfl rfl (by decide) hf_9 rfl rfl dX6_wind_79 ?_
        refine li_bipush hx hb dX6_wind_82 (by decide) ?_
        refine lv_iload_n hx hb dX6_wind_84 rfl (lv_at hl 3 rfl) ?_
        refine li_add hx hb dX6_wind_85 ?_
        refine lv_iload_n hx hb dX6_wind_86 rfl (lv_at hl 4 rfl) ?_
        refine li_iast (q0 := 1) (t0 := 0) (g := (rowF w op tn pl en kd nb)) (w2 := cMd cI n L a rn sp cnt 0 (rowF w op (upZ tn x y) pl en kd nb) as ln dr M0 M1 M2 M3 M4) hx hb hK hP hD hS rfl rfl (by omega) (by omega) (ib_i (by omega) (by omega)) dX6_wind_87 (by rw [wr_t (c := x) (by omega) (by omega) (by omega)] <;> rfl) (fun H locs hP hD hS => ?_)
        refine lv_iload hx hb dX6_wind_88 (lv_at hl 0 rfl) ?_
        exact li_iret () hx hb hr hlocks hK hP hD hS dX6_wind_90 hQ rfl (congrArg iI (by unfold tnA; rw [if_pos (by omega)]))
      · refine lv_iload_n hx hb dX6_wind_50 rfl (lv_at hl 0 rfl) ?_
        refine li_if_ne_t (tgt := 58) hx hb dX6_wind_51 (by decide) (by decide) (by decide) ?_
        refine li_const hx hb dX6_wind_58 ?_
        refine cl_i0 (isC := [0, 1, 2, 3, 4]) (isR := []) (isN := [0, 1, 2, 3, 4]) (wr := []) (wn := cMd cI n L a rn sp cnt (chA 1 1 0) (rowF w op tn pl en kd nb) as ln dr M0 M1 M2 M3 M4) (As := [.int (iI 1), .int (iI 1), .int (iI 0)]) (rest := []) (r := bz (chA 1 1 0 = 0)) (ci := 6) (q0 := 0) ⟨hx, hb, hml, hown, hts⟩ (c_X6_check n L a rn sp cnt th w op tn pl en kd nb as ln dr M0 M1 M2 M3 M4 1 1 0 (by first | decide | exact bz_01 _ | omega) (by first | decide | exact bz_01 _ | omega) (by first | decide | exact bz_01 _ | omega)) (cwV 3 hts gX6_wind_X6_check rfl rfl rfl (by decide +kernel) ⟨Nat.le_of_ble_eq_true rfl, Nat.le_of_ble_eq_true rfl⟩) hK hNW hP hD hS hA rfl rfl rfl rfl (by decide) rfl rfl rfl rfl rfl rfl hl.1 rfl (Nat.le_of_ble_eq_true rfl) dX6_wind_59 ⟨Nat.zero_le _, Nat.zero_le _⟩ (fun H locs hP hD hS => ?_)
        refine li_top (b := 0) rfl ?_
        refine li_if_ne_f (tgt := 67) hx hb dX6_wind_62 (by decide) (by decide) (by decide) ?_
        refine li_const hx hb dX6_wind_65 ?_
        exact li_iret () hx hb hr hlocks hK hP hD hS dX6_wind_66 hQ (by exfalso; rcases hb9 with h | h; exact absurd h c_47; exact h (by unfold beO; simp only [Bool.or_eq_true]; first | exact Or.inl (Or.inl (by assumption)) | exact Or.inl (Or.inr (by assumption)) | exact Or.inr (by assumption))) (congrArg iI (by exfalso; rcases hb9 with h | h; exact absurd h c_47; exact h (by unfold beO; simp only [Bool.or_eq_true]; first | exact Or.inl (Or.inl (by assumption)) | exact Or.inl (Or.inr (by assumption)) | exact Or.inr (by assumption))))
    · refine lv_aload_n hx hb dX6_wind_18 rfl (lv_at hl 0 rfl) ?_
      refine lv_iload_n hx hb dX6_wind_19 rfl (lv_at hl 1 rfl) ?_
      refine li_const hx hb dX6_wind_20 ?_
      refine li_add hx hb dX6_wind_21 ?_
      refine cl_i0 (isC := [0, 1, 2, 3, 4]) (isR := []) (isN := [0, 1, 2, 3, 4]) (wr := []) (wn := cMd cI n L a rn sp cnt th (rowF w op tn pl en kd nb) as ln dr M0 M1 M2 M3 M4) (As := [.int (iI (x + 1))]) (rest := []) (r := bz (isO op (x + 1) = true)) (ci := 6) (q0 := 0) ⟨hx, hb, hml, hown, hts⟩ (c_X6_isOpenGate n L a rn sp cnt th w op tn pl en kd nb as ln dr M0 M1 M2 M3 M4 (x + 1) (by first | assumption | omega) (by first | assumption | omega) (by first | assumption | omega) (by first | assumption | omega) (by first | assumption | omega) (by first | assumption | omega)) (cwV 1 hts gX6_wind_X6_isOpenGate rfl rfl rfl (by decide +kernel) ⟨Nat.le_of_ble_eq_true rfl, Nat.le_of_ble_eq_true rfl⟩) hK hNW hP hD hS hA rfl rfl rfl rfl (by decide) rfl rfl rfl rfl rfl rfl hl.1 rfl (Nat.le_of_ble_eq_true rfl) dX6_wind_22 ⟨Nat.zero_le _, Nat.zero_le _⟩ (fun H locs hP hD hS => ?_)
      refine li_ifb_eq (tgt := 32) hx hb dX6_wind_25 (by decide) (fun c_25 => ?_) (fun c_25 => ?_)
      · refine li_const hx hb dX6_wind_32 ?_
        refine lv_istore_n (lv' := [(3, .int (iI 0)), (0, .ref M0), (1, .int (iI x)), (2, .int (iI y))]) hx hb dX6_wind_33 rfl hl (by decide) rfl (fun ls hl => ?_)
        refine lv_aload_n hx hb dX6_wind_34 rfl (lv_at hl 1 rfl) ?_
        refine lv_aload_n hx hb dX6_wind_35 rfl (lv_at hl 1 rfl) ?_
        refine lv_iload_n hx hb dX6_wind_36 rfl (lv_at hl 2 rfl) ?_
        refine cl_i0 (isC := [0, 1, 2, 3, 4]) (isR := []) (isN := [0, 1, 2, 3, 4]) (wr := []) (wn := cMd cI n L a rn sp cnt th (rowF w op tn pl en kd nb) as ln dr M0 M1 M2 M3 M4) (As := [.int (iI x)]) (rest := [.ref M0]) (r := bz (0 ≤ x ∧ x ≤ n)) (ci := 6) (q0 := 0) ⟨hx, hb, hml, hown, hts⟩ (c_X6_isGate n L a rn sp cnt th w op tn pl en kd nb as ln dr M0 M1 M2 M3 M4 x (by first | assumption | omega) (by first | assumption | omega) (by first | assumption | omega) (by first | assumption | omega)) (cwV 1 hts gX6_wind_X6_isGate rfl rfl rfl (by decide +kernel) ⟨Nat.le_of_ble_eq_true rfl, Nat.le_of_ble_eq_true rfl⟩) hK hNW hP hD hS hA rfl rfl rfl rfl (by decide) rfl rfl rfl rfl rfl rfl hl.1 rfl (Nat.le_of_ble_eq_true rfl) dX6_wind_37 ⟨Nat.zero_le _, Nat.zero_le _⟩ (fun H locs hP hD hS => ?_)
        refine li_top (b := 1) (bz_t (by exact hv)) ?_
        refine lv_iload_n hx hb dX6_wind_40 rfl (lv_at hl 3 rfl) ?_
        refine li_const hx hb dX6_wind_41 ?_
        refine li_const hx hb dX6_wind_42 ?_
        refine cs_i0 (isC := []) (isR := [0, 1, 2, 3, 4]) (isN := [0, 1, 2, 3, 4]) (wr := cMd cI n L a rn sp cnt th (rowF w op tn pl en kd nb) as ln dr M0 M1 M2 M3 M4) (wn := cMd cI n L a rn sp cnt th (rowF w op tn pl en kd nb) as ln dr M0 M1 M2 M3 M4) (As := [.int (iI y), .int (iI 0), .int (iI 5)]) (rest := [.int (iI 1), .ref M0]) (r := bz (0 ≤ y ∧ y ≤ 5)) ⟨hx, hb, hml, hown, hts⟩ (c_X6_isWithin y 0 5 (by first | assumption | omega) (by first | assumption | omega) (by first | assumption | omega)) (va_cwS 3 hts gX6_wind_X6_isWithin rfl rfl rfl (by decide +kernel) ⟨Nat.le_of_ble_eq_true rfl, Nat.le_of_ble_eq_true rfl⟩) hK hNW hP hD hS hA rfl rfl rfl rfl (by decide) rfl rfl rfl hl.1 rfl (Nat.le_of_ble_eq_true rfl) dX6_wind_43 ⟨Nat.zero_le _, Nat.zero_le _⟩ (fun H locs hP hD hS => ?_)
        refine li_top (b := 1) (bz_t (by exact hy2)) ?_
        refine lv_iload_n hx hb dX6_wind_46 rfl (lv_at hl 3 rfl) ?_
        refine li_if_eq (tgt := 54) hx hb dX6_wind_47 (by decide) (ib_i (by omega) (by omega)) (fun c_47 => ?_) (fun c_47 => ?_)
        · refine li_const hx hb dX6_wind_54 ?_
          refine lv_goto (tgt := 59) hx hb dX6_wind_55 (by decide) ?_
          refine cl_i0 (isC := [0, 1, 2, 3, 4]) (isR := []) (isN := [0, 1, 2, 3, 4]) (wr := []) (wn := cMd cI n L a rn sp cnt (chA 1 1 1) (rowF w op tn pl en kd nb) as ln dr M0 M1 M2 M3 M4) (As := [.int (iI 1), .int (iI 1), .int (iI 1)]) (rest := []) (r := bz (chA 1 1 1 = 0)) (ci := 6) (q0 := 0) ⟨hx, hb, hml, hown, hts⟩ (c_X6_check n L a rn sp cnt th w op tn pl en kd nb as ln dr M0 M1 M2 M3 M4 1 1 1 (by first | decide | exact bz_01 _ | omega) (by first | decide | exact bz_01 _ | omega) (by first | decide | exact bz_01 _ | omega)) (cwV 3 hts gX6_wind_X6_check rfl rfl rfl (by decide +kernel) ⟨Nat.le_of_ble_eq_true rfl, Nat.le_of_ble_eq_true rfl⟩) hK hNW hP hD hS hA rfl rfl rfl rfl (by decide) rfl rfl rfl rfl rfl rfl hl.1 rfl (Nat.le_of_ble_eq_true rfl) dX6_wind_59 ⟨Nat.zero_le _, Nat.zero_le _⟩ (fun H locs hP hD hS => ?_)
          refine li_top (b := 1) rfl ?_
          refine li_if_ne_t (tgt := 67) hx hb dX6_wind_62 (by decide) (by decide) (by decide) ?_
          refine lv_aload_n hx hb dX6_wind_67 rfl (lv_at hl 1 rfl) ?_
          refine li_get (ci := 6) (v := .ref M1) (C := RX6) (T := TX6) (N := 11) (q0 := 0) (k := 5) hx hb hts hin_X6 hown hK hP rfl rfl (by decide) hf_9 rfl rfl dX6_wind_68 ?_
          refine li_bipush hx hb dX6_wind_71 (by decide) ?_
          refine lv_iload_n hx hb dX6_wind_73 rfl (lv_at hl 2 rfl) ?_
          refine li_add hx hb dX6_wind_74 ?_
          refine li_iald (q0 := 1) (t0 := 0) (g := (rowF w op tn pl en kd nb)) hx hb hK hP rfl rfl (by omega) (by omega) (ib_i (by omega) (by omega)) dX6_wind_75 ?_
          refine li_top (b := tn x) (rd_t (c := x) (by omega) (by omega) (by omega)) ?_
          refine lv_istore (lv' := [(4, .int (iI (tn x))), (3, .int (iI 0)), (0, .ref M0), (1, .int (iI x)), (2, .int (iI y))]) hx hb dX6_wind_76 hl (by decide) rfl (fun ls hl => ?_)
          refine lv_aload_n hx hb dX6_wind_78 rfl (lv_at hl 2 rfl) ?_
          refine li_get (ci := 6) (v := .ref M1) (C := RX6) (T := TX6) (N := 11) (q0 := 0) (k := 5) hx hb hts hin_X6 hown hK hP rfl rfl (by decide) hf_9 rfl rfl dX6_wind_79 ?_
          refine li_bipush hx hb dX6_wind_82 (by decide) ?_
          refine lv_iload_n hx hb dX6_wind_84 rfl (lv_at hl 3 rfl) ?_
          refine li_add hx hb dX6_wind_85 ?_
          refine lv_iload_n hx hb dX6_wind_86 rfl (lv_at hl 4 rfl) ?_
          refine li_iast (q0 := 1) (t0 := 0) (g := (rowF w op tn pl en kd nb)) (w2 := cMd cI n L a rn sp cnt 0 (rowF w op (upZ tn x y) pl en kd nb) as ln dr M0 M1 M2 M3 M4) hx hb hK hP hD hS rfl rfl (by omega) (by omega) (ib_i (by omega) (by omega)) dX6_wind_87 (by rw [wr_t (c := x) (by omega) (by omega) (by omega)] <;> rfl) (fun H locs hP hD hS => ?_)
          refine lv_iload hx hb dX6_wind_88 (lv_at hl 0 rfl) ?_
          exact li_iret () hx hb hr hlocks hK hP hD hS dX6_wind_90 hQ rfl (congrArg iI (by unfold tnA; rw [if_pos (by omega)]))
        · refine lv_iload_n hx hb dX6_wind_50 rfl (lv_at hl 0 rfl) ?_
          refine li_if_ne_f (tgt := 58) hx hb dX6_wind_51 (by decide) (by decide) (by decide) ?_
          refine li_const hx hb dX6_wind_54 ?_
          refine lv_goto (tgt := 59) hx hb dX6_wind_55 (by decide) ?_
          refine cl_i0 (isC := [0, 1, 2, 3, 4]) (isR := []) (isN := [0, 1, 2, 3, 4]) (wr := []) (wn := cMd cI n L a rn sp cnt (chA 1 1 1) (rowF w op tn pl en kd nb) as ln dr M0 M1 M2 M3 M4) (As := [.int (iI 1), .int (iI 1), .int (iI 1)]) (rest := []) (r := bz (chA 1 1 1 = 0)) (ci := 6) (q0 := 0) ⟨hx, hb, hml, hown, hts⟩ (c_X6_check n L a rn sp cnt th w op tn pl en kd nb as ln dr M0 M1 M2 M3 M4 1 1 1 (by first | decide | exact bz_01 _ | omega) (by first | decide | exact bz_01 _ | omega) (by first | decide | exact bz_01 _ | omega)) (cwV 3 hts gX6_wind_X6_check rfl rfl rfl (by decide +kernel) ⟨Nat.le_of_ble_eq_true rfl, Nat.le_of_ble_eq_true rfl⟩) hK hNW hP hD hS hA rfl rfl rfl rfl (by decide) rfl rfl rfl rfl rfl rfl hl.1 rfl (Nat.le_of_ble_eq_true rfl) dX6_wind_59 ⟨Nat.zero_le _, Nat.zero_le _⟩ (fun H locs hP hD hS => ?_)
          refine li_top (b := 1) rfl ?_
          refine li_if_ne_t (tgt := 67) hx hb dX6_wind_62 (by decide) (by decide) (by decide) ?_
          refine lv_aload_n hx hb dX6_wind_67 rfl (lv_at hl 1 rfl) ?_
          refine li_get (ci := 6) (v := .ref M1) (C := RX6) (T := TX6) (N := 11) (q0 := 0) (k := 5) hx hb hts hin_X6 hown hK hP rfl rfl (by decide) hf_9 rfl rfl dX6_wind_68 ?_
          refine li_bipush hx hb dX6_wind_71 (by decide) ?_
          refine lv_iload_n hx hb dX6_wind_73 rfl (lv_at hl 2 rfl) ?_
          refine li_add hx hb dX6_wind_74 ?_
          refine li_iald (q0 := 1) (t0 := 0) (g := (rowF w op tn pl en kd nb)) hx hb hK hP rfl rfl (by omega) (by omega) (ib_i (by omega) (by omega)) dX6_wind_75 ?_
          refine li_top (b := tn x) (rd_t (c := x) (by omega) (by omega) (by omega)) ?_
          refine lv_istore (lv' := [(4, .int (iI (tn x))), (3, .int (iI 0)), (0, .ref M0), (1, .int (iI x)), (2, .int (iI y))]) hx hb dX6_wind_76 hl (by decide) rfl (fun ls hl => ?_)
          refine lv_aload_n hx hb dX6_wind_78 rfl (lv_at hl 2 rfl) ?_
          refine li_get (ci := 6) (v := .ref M1) (C := RX6) (T := TX6) (N := 11) (q0 := 0) (k := 5) hx hb hts hin_X6 hown hK hP rfl rfl (by decide) hf_9 rfl rfl dX6_wind_79 ?_
          refine li_bipush hx hb dX6_wind_82 (by decide) ?_
          refine lv_iload_n hx hb dX6_wind_84 rfl (lv_at hl 3 rfl) ?_
          refine li_add hx hb dX6_wind_85 ?_
          refine lv_iload_n hx hb dX6_wind_86 rfl (lv_at hl 4 rfl) ?_
          refine li_iast (q0 := 1) (t0 := 0) (g := (rowF w op tn pl en kd nb)) (w2 := cMd cI n L a rn sp cnt 0 (rowF w op (upZ tn x y) pl en kd nb) as ln dr M0 M1 M2 M3 M4) hx hb hK hP hD hS rfl rfl (by omega) (by omega) (ib_i (by omega) (by omega)) dX6_wind_87 (by rw [wr_t (c := x) (by omega) (by omega) (by omega)] <;> rfl) (fun H locs hP hD hS => ?_)
          refine lv_iload hx hb dX6_wind_88 (lv_at hl 0 rfl) ?_
          exact li_iret () hx hb hr hlocks hK hP hD hS dX6_wind_90 hQ rfl (congrArg iI (by unfold tnA; rw [if_pos (by omega)]))
      · refine li_const hx hb dX6_wind_28 ?_
        refine lv_goto (tgt := 33) hx hb dX6_wind_29 (by decide) ?_
        refine lv_istore_n (lv' := [(3, .int (iI 1)), (0, .ref M0), (1, .int (iI x)), (2, .int (iI y))]) hx hb dX6_wind_33 rfl hl (by decide) rfl (fun ls hl => ?_)
        refine lv_aload_n hx hb dX6_wind_34 rfl (lv_at hl 1 rfl) ?_
        refine lv_aload_n hx hb dX6_wind_35 rfl (lv_at hl 1 rfl) ?_
        refine lv_iload_n hx hb dX6_wind_36 rfl (lv_at hl 2 rfl) ?_
        refine cl_i0 (isC := [0, 1, 2, 3, 4]) (isR := []) (isN := [0, 1, 2, 3, 4]) (wr := []) (wn := cMd cI n L a rn sp cnt th (rowF w op tn pl en kd nb) as ln dr M0 M1 M2 M3 M4) (As := [.int (iI x)]) (rest := [.ref M0]) (r := bz (0 ≤ x ∧ x ≤ n)) (ci := 6) (q0 := 0) ⟨hx, hb, hml, hown, hts⟩ (c_X6_isGate n L a rn sp cnt th w op tn pl en kd nb as ln dr M0 M1 M2 M3 M4 x (by first | assumption | omega) (by first | assumption | omega) (by first | assumption | omega) (by first | assumption | omega)) (cwV 1 hts gX6_wind_X6_isGate rfl rfl rfl (by decide +kernel) ⟨Nat.le_of_ble_eq_true rfl, Nat.le_of_ble_eq_true rfl⟩) hK hNW hP hD hS hA rfl rfl rfl rfl (by decide) rfl rfl rfl rfl rfl rfl hl.1 rfl (Nat.le_of_ble_eq_true rfl) dX6_wind_37 ⟨Nat.zero_le _, Nat.zero_le _⟩ (fun H locs hP hD hS => ?_)
        refine li_top (b := 1) (bz_t (by exact hv)) ?_
        refine lv_iload_n hx hb dX6_wind_40 rfl (lv_at hl 3 rfl) ?_
        refine li_const hx hb dX6_wind_41 ?_
        refine li_const hx hb dX6_wind_42 ?_
        refine cs_i0 (isC := []) (isR := [0, 1, 2, 3, 4]) (isN := [0, 1, 2, 3, 4]) (wr := cMd cI n L a rn sp cnt th (rowF w op tn pl en kd nb) as ln dr M0 M1 M2 M3 M4) (wn := cMd cI n L a rn sp cnt th (rowF w op tn pl en kd nb) as ln dr M0 M1 M2 M3 M4) (As := [.int (iI y), .int (iI 0), .int (iI 5)]) (rest := [.int (iI 1), .ref M0]) (r := bz (0 ≤ y ∧ y ≤ 5)) ⟨hx, hb, hml, hown, hts⟩ (c_X6_isWithin y 0 5 (by first | assumption | omega) (by first | assumption | omega) (by first | assumption | omega)) (va_cwS 3 hts gX6_wind_X6_isWithin rfl rfl rfl (by decide +kernel) ⟨Nat.le_of_ble_eq_true rfl, Nat.le_of_ble_eq_true rfl⟩) hK hNW hP hD hS hA rfl rfl rfl rfl (by decide) rfl rfl rfl hl.1 rfl (Nat.le_of_ble_eq_true rfl) dX6_wind_43 ⟨Nat.zero_le _, Nat.zero_le _⟩ (fun H locs hP hD hS => ?_)
        refine li_top (b := 1) (bz_t (by exact hy2)) ?_
        refine lv_iload_n hx hb dX6_wind_46 rfl (lv_at hl 3 rfl) ?_
        refine li_if_eq (tgt := 54) hx hb dX6_wind_47 (by decide) (ib_i (by omega) (by omega)) (fun c_47 => ?_) (fun c_47 => ?_)
        · refine li_const hx hb dX6_wind_54 ?_
          refine lv_goto (tgt := 59) hx hb dX6_wind_55 (by decide) ?_
          refine cl_i0 (isC := [0, 1, 2, 3, 4]) (isR := []) (isN := [0, 1, 2, 3, 4]) (wr := []) (wn := cMd cI n L a rn sp cnt (chA 1 1 1) (rowF w op tn pl en kd nb) as ln dr M0 M1 M2 M3 M4) (As := [.int (iI 1), .int (iI 1), .int (iI 1)]) (rest := []) (r := bz (chA 1 1 1 = 0)) (ci := 6) (q0 := 0) ⟨hx, hb, hml, hown, hts⟩ (c_X6_check n L a rn sp cnt th w op tn pl en kd nb as ln dr M0 M1 M2 M3 M4 1 1 1 (by first | decide | exact bz_01 _ | omega) (by first | decide | exact bz_01 _ | omega) (by first | decide | exact bz_01 _ | omega)) (cwV 3 hts gX6_wind_X6_check rfl rfl rfl (by decide +kernel) ⟨Nat.le_of_ble_eq_true rfl, Nat.le_of_ble_eq_true rfl⟩) hK hNW hP hD hS hA rfl rfl rfl rfl (by decide) rfl rfl rfl rfl rfl rfl hl.1 rfl (Nat.le_of_ble_eq_true rfl) dX6_wind_59 ⟨Nat.zero_le _, Nat.zero_le _⟩ (fun H locs hP hD hS => ?_)
          refine li_top (b := 1) rfl ?_
          refine li_if_ne_t (tgt := 67) hx hb dX6_wind_62 (by decide) (by decide) (by decide) ?_
          refine lv_aload_n hx hb dX6_wind_67 rfl (lv_at hl 1 rfl) ?_
          refine li_get (ci := 6) (v := .ref M1) (C := RX6) (T := TX6) (N := 11) (q0 := 0) (k := 5) hx hb hts hin_X6 hown hK hP rfl rfl (by decide) hf_9 rfl rfl dX6_wind_68 ?_
          refine li_bipush hx hb dX6_wind_71 (by decide) ?_
          refine lv_iload_n hx hb dX6_wind_73 rfl (lv_at hl 2 rfl) ?_
          refine li_add hx hb dX6_wind_74 ?_
          refine li_iald (q0 := 1) (t0 := 0) (g := (rowF w op tn pl en kd nb)) hx hb hK hP rfl rfl (by omega) (by omega) (ib_i (by omega) (by omega)) dX6_wind_75 ?_
          refine li_top (b := tn x) (rd_t (c := x) (by omega) (by omega) (by omega)) ?_
          refine lv_istore (lv' := [(4, .int (iI (tn x))), (3, .int (iI 1)), (0, .ref M0), (1, .int (iI x)), (2, .int (iI y))]) hx hb dX6_wind_76 hl (by decide) rfl (fun ls hl => ?_)
          refine lv_aload_n hx hb dX6_wind_78 rfl (lv_at hl 2 rfl) ?_
          refine li_get (ci := 6) (v := .ref M1) (C := RX6) (T := TX6) (N := 11) (q0 := 0) (k := 5) hx hb hts hin_X6 hown hK hP rfl rfl (by decide) hf_9 rfl rfl dX6_wind_79 ?_
          refine li_bipush hx hb dX6_wind_82 (by decide) ?_
          refine lv_iload_n hx hb dX6_wind_84 rfl (lv_at hl 3 rfl) ?_
          refine li_add hx hb dX6_wind_85 ?_
          refine lv_iload_n hx hb dX6_wind_86 rfl (lv_at hl 4 rfl) ?_
          refine li_iast (q0 := 1) (t0 := 0) (g := (rowF w op tn pl en kd nb)) (w2 := cMd cI n L a rn sp cnt 0 (rowF w op (upZ tn x y) pl en kd nb) as ln dr M0 M1 M2 M3 M4) hx hb hK hP hD hS rfl rfl (by omega) (by omega) (ib_i (by omega) (by omega)) dX6_wind_87 (by rw [wr_t (c := x) (by omega) (by omega) (by omega)] <;> rfl) (fun H locs hP hD hS => ?_)
          refine lv_iload hx hb dX6_wind_88 (lv_at hl 0 rfl) ?_
          exact li_iret () hx hb hr hlocks hK hP hD hS dX6_wind_90 hQ rfl (congrArg iI (by unfold tnA; rw [if_pos (by omega)]))
        · refine lv_iload_n hx hb dX6_wind_50 rfl (lv_at hl 0 rfl) ?_
          refine li_if_ne_t (tgt := 58) hx hb dX6_wind_51 (by decide) (by decide) (by decide) ?_
          refine li_const hx hb dX6_wind_58 ?_
          refine cl_i0 (isC := [0, 1, 2, 3, 4]) (isR := []) (isN := [0, 1, 2, 3, 4]) (wr := []) (wn := cMd cI n L a rn sp cnt (chA 1 1 0) (rowF w op tn pl en kd nb) as ln dr M0 M1 M2 M3 M4) (As := [.int (iI 1), .int (iI 1), .int (iI 0)]) (rest := []) (r := bz (chA 1 1 0 = 0)) (ci := 6) (q0 := 0) ⟨hx, hb, hml, hown, hts⟩ (c_X6_check n L a rn sp cnt th w op tn pl en kd nb as ln dr M0 M1 M2 M3 M4 1 1 0 (by first | decide | exact bz_01 _ | omega) (by first | decide | exact bz_01 _ | omega) (by first | decide | exact bz_01 _ | omega)) (cwV 3 hts gX6_wind_X6_check rfl rfl rfl (by decide +kernel) ⟨Nat.le_of_ble_eq_true rfl, Nat.le_of_ble_eq_true rfl⟩) hK hNW hP hD hS hA rfl rfl rfl rfl (by decide) rfl rfl rfl rfl rfl rfl hl.1 rfl (Nat.le_of_ble_eq_true rfl) dX6_wind_59 ⟨Nat.zero_le _, Nat.zero_le _⟩ (fun H locs hP hD hS => ?_)
          refine li_top (b := 0) rfl ?_
          refine li_if_ne_f (tgt := 67) hx hb dX6_wind_62 (by decide) (by decide) (by decide) ?_
          refine li_const hx hb dX6_wind_65 ?_
          exact li_iret () hx hb hr hlocks hK hP hD hS dX6_wind_66 hQ (by exfalso; rcases hb9 with h | h; exact absurd h c_47; exact h (by unfold beO; simp only [Bool.or_eq_true]; first | exact Or.inl (Or.inl (by assumption)) | exact Or.inl (Or.inr (by assumption)) | exact Or.inr (by assumption))) (congrArg iI (by exfalso; rcases hb9 with h | h; exact absurd h c_47; exact h (by unfold beO; simp only [Bool.or_eq_true]; first | exact Or.inl (Or.inl (by assumption)) | exact Or.inl (Or.inr (by assumption)) | exact Or.inr (by assumption))))

set_option maxRecDepth 100000 in
set_option maxHeartbeats 4000000 in
theorem c_X6_wind_no1 {l : Launch} {D : va_G} {cI cZ cJ : ClassId} (n : Int) (L : Int) (a : Int) (rn : Int) (sp : Int) (cnt : Int) (th : Int) (w : Wt) (op : Int → Int) (tn : Int → Int) (pl : Int → Int) (en : Int) (kd : Int → Int) (nb : Int → Int) (as : Int → Int) (ln : Int → Int) (dr : Int → Int) (M0 M1 M2 M3 M4 : Nat) (x : Int) (y : Int) (hn : 1 ≤ n ∧ n ≤ 6) (hL : 5 ≤ L ∧ L ≤ 40) (ha : 1 ≤ a ∧ a ≤ 50) (hop : opB op) (hoz : ∀ g, n < g → op g = 0) (htn : tnB tn) (i_x : -2147483648 ≤ x ∧ x < 2147483648) (i_y : -2147483648 ≤ y ∧ y < 2147483648) (hv : ¬ (0 ≤ x ∧ x ≤ n)) : Di l yX6_wind wsX6_wind 25 [.ref M0, .int (iI x), .int (iI y)] D (ty3 cI cZ cJ) (cMd cI n L a rn sp cnt th (rowF w op tn pl en kd nb) as ln dr M0 M1 M2 M3 M4) (0) (cMd cI n L a rn sp cnt 1 (rowF w op tn pl en kd nb) as ln dr M0 M1 M2 M3 M4) := by
  refine ct_i (plainFor_of_name (by decide)) rfl (Nat.le_of_ble_eq_true rfl) ?_
  intro p e s mI args below meth c_0 ls A hx hb hr hml hts hown hlocks hin hA hP hK hD hNW hS hl Q hQ
  have hown : s.vm.findClass RX6 = some mI.cls := hown
  have hl : lv_has ls 5 [(0, .ref M0), (1, .int (iI x)), (2, .int (iI y))] := hl
  refine lv_aload_n hx hb dX6_wind_0 rfl (lv_at hl 0 rfl) ?_
  refine lv_iload_n hx hb dX6_wind_1 rfl (lv_at hl 1 rfl) ?_
  refine cl_i0 (isC := [0, 1, 2, 3, 4]) (isR := []) (isN := [0, 1, 2, 3, 4]) (wr := []) (wn := cMd cI n L a rn sp cnt th (rowF w op tn pl en kd nb) as ln dr M0 M1 M2 M3 M4) (As := [.int (iI x)]) (rest := []) (r := bz (isO op x = true)) (ci := 6) (q0 := 0) ⟨hx, hb, hml, hown, hts⟩ (c_X6_isOpenGate n L a rn sp cnt th w op tn pl en kd nb as ln dr M0 M1 M2 M3 M4 x (by first | assumption | omega) (by first | assumption | omega) (by first | assumption | omega) (by first | assumption | omega) (by first | assumption | omega) (by first | exact wr_bd _ | omega)) (cwV 1 hts gX6_wind_X6_isOpenGate rfl rfl rfl (by decide +kernel) ⟨Nat.le_of_ble_eq_true rfl, Nat.le_of_ble_eq_true rfl⟩) hK hNW hP hD hS hA rfl rfl rfl rfl (by decide) rfl rfl rfl rfl rfl rfl hl.1 rfl (Nat.le_of_ble_eq_true rfl) dX6_wind_2 ⟨Nat.zero_le _, Nat.zero_le _⟩ (fun H locs hP hD hS => ?_)
  refine li_ifb_ne (tgt := 28) hx hb dX6_wind_5 (by decide) (fun c_5 => ?_) (fun c_5 => ?_)
  · refine li_const hx hb dX6_wind_28 ?_
    refine lv_goto (tgt := 33) hx hb dX6_wind_29 (by decide) ?_
    refine lv_istore_n (lv' := [(3, .int (iI 1)), (0, .ref M0), (1, .int (iI x)), (2, .int (iI y))]) hx hb dX6_wind_33 rfl hl (by decide) rfl (fun ls hl => ?_)
    refine lv_aload_n hx hb dX6_wind_34 rfl (lv_at hl 1 rfl) ?_
    refine lv_aload_n hx hb dX6_wind_35 rfl (lv_at hl 1 rfl) ?_
    refine lv_iload_n hx hb dX6_wind_36 rfl (lv_at hl 2 rfl) ?_
    refine cl_i0 (isC := [0, 1, 2, 3, 4]) (isR := []) (isN := [0, 1, 2, 3, 4]) (wr := []) (wn := cMd cI n L a rn sp cnt th (rowF w op tn pl en kd nb) as ln dr M0 M1 M2 M3 M4) (As := [.int (iI x)]) (rest := [.ref M0]) (r := bz (0 ≤ x ∧ x ≤ n)) (ci := 6) (q0 := 0) ⟨hx, hb, hml, hown, hts⟩ (c_X6_isGate n L a rn sp cnt th w op tn pl en kd nb as ln dr M0 M1 M2 M3 M4 x (by first | assumption | omega) (by first | assumption | omega) (by first | assumption | omega) (by first | assumption | omega)) (cwV 1 hts gX6_wind_X6_isGate rfl rfl rfl (by decide +kernel) ⟨Nat.le_of_ble_eq_true rfl, Nat.le_of_ble_eq_true rfl⟩) hK hNW hP hD hS hA rfl rfl rfl rfl (by decide) rfl rfl rfl rfl rfl rfl hl.1 rfl (Nat.le_of_ble_eq_true rfl) dX6_wind_37 ⟨Nat.zero_le _, Nat.zero_le _⟩ (fun H locs hP hD hS => ?_)
    refine li_top (b := 0) (bz_f (by exact hv)) ?_
    refine lv_iload_n hx hb dX6_wind_40 rfl (lv_at hl 3 rfl) ?_
    refine li_const hx hb dX6_wind_41 ?_
    refine li_const hx hb dX6_wind_42 ?_
    refine cs_i0 (isC := []) (isR := [0, 1, 2, 3, 4]) (isN := [0, 1, 2, 3, 4]) (wr := cMd cI n L a rn sp cnt th (rowF w op tn pl en kd nb) as ln dr M0 M1 M2 M3 M4) (wn := cMd cI n L a rn sp cnt th (rowF w op tn pl en kd nb) as ln dr M0 M1 M2 M3 M4) (As := [.int (iI y), .int (iI 0), .int (iI 5)]) (rest := [.int (iI 0), .ref M0]) (r := bz (0 ≤ y ∧ y ≤ 5)) ⟨hx, hb, hml, hown, hts⟩ (c_X6_isWithin y 0 5 (by first | assumption | omega) (by first | assumption | omega) (by first | assumption | omega)) (va_cwS 3 hts gX6_wind_X6_isWithin rfl rfl rfl (by decide +kernel) ⟨Nat.le_of_ble_eq_true rfl, Nat.le_of_ble_eq_true rfl⟩) hK hNW hP hD hS hA rfl rfl rfl rfl (by decide) rfl rfl rfl hl.1 rfl (Nat.le_of_ble_eq_true rfl) dX6_wind_43 ⟨Nat.zero_le _, Nat.zero_le _⟩ (fun H locs hP hD hS => ?_)
    refine lv_iload_n hx hb dX6_wind_46 rfl (lv_at hl 3 rfl) ?_
    refine li_if_eq (tgt := 54) hx hb dX6_wind_47 (by decide) (ib_i (by omega) (by omega)) (fun c_47 => ?_) (fun c_47 => ?_)
    · refine li_const hx hb dX6_wind_54 ?_
      refine lv_goto (tgt := 59) hx hb dX6_wind_55 (by decide) ?_
      refine cl_i0 (isC := [0, 1, 2, 3, 4]) (isR := []) (isN := [0, 1, 2, 3, 4]) (wr := []) (wn := cMd cI n L a rn sp cnt (chA 0 (bz (0 ≤ y ∧ y ≤ 5)) 1) (rowF w op tn pl en kd nb) as ln dr M0 M1 M2 M3 M4) (As := [.int (iI 0), .int (iI (bz (0 ≤ y ∧ y ≤ 5))), .int (iI 1)]) (rest := []) (r := bz (chA 0 (bz (0 ≤ y ∧ y ≤ 5)) 1 = 0)) (ci := 6) (q0 := 0) ⟨hx, hb, hml, hown, hts⟩ (c_X6_check n L a rn sp cnt th w op tn pl en kd nb as ln dr M0 M1 M2 M3 M4 0 (bz (0 ≤ y ∧ y ≤ 5)) 1 (by first | decide | exact bz_01 _ | omega) (by first | decide | exact bz_01 _ | omega) (by first | decide | exact bz_01 _ | omega)) (cwV 3 hts gX6_wind_X6_check rfl rfl rfl (by decide +kernel) ⟨Nat.le_of_ble_eq_true rfl, Nat.le_of_ble_eq_true rfl⟩) hK hNW hP hD hS hA rfl rfl rfl rfl (by decide) rfl rfl rfl rfl rfl rfl hl.1 rfl (Nat.le_of_ble_eq_true rfl) dX6_wind_59 ⟨Nat.zero_le _, Nat.zero_le _⟩ (fun H locs hP hD hS => ?_)
      refine li_top (b := 0) rfl ?_
      refine li_if_ne_f (tgt := 67) hx hb dX6_wind_62 (by decide) (by decide) (by decide) ?_
      refine li_const hx hb dX6_wind_65 ?_
      exact li_iret () hx hb hr hlocks hK hP hD hS dX6_wind_66 hQ rfl (congrArg iI (rfl))
    · refine lv_iload_n hx hb dX6_wind_50 rfl (lv_at hl 0 rfl) ?_
      refine li_if_ne_t (tgt := 58) hx hb dX6_wind_51 (by decide) (by decide) (by decide) ?_
      refine li_const hx hb dX6_wind_58 ?_
      refine cl_i0 (isC := [0, 1, 2, 3, 4]) (isR := []) (isN := [0, 1, 2, 3, 4]) (wr := []) (wn := cMd cI n L a rn sp cnt (chA 0 (bz (0 ≤ y ∧ y ≤ 5)) 0) (rowF w op tn pl en kd nb) as ln dr M0 M1 M2 M3 M4) (As := [.int (iI 0), .int (iI (bz (0 ≤ y ∧ y ≤ 5))), .int (iI 0)]) (rest := []) (r := bz (chA 0 (bz (0 ≤ y ∧ y ≤ 5)) 0 = 0)) (ci := 6) (q0 := 0) ⟨hx, hb, hml, hown, hts⟩ (c_X6_check n L a rn sp cnt th w op tn pl en kd nb as ln dr M0 M1 M2 M3 M4 0 (bz (0 ≤ y ∧ y ≤ 5)) 0 (by first | decide | exact bz_01 _ | omega) (by first | decide | exact bz_01 _ | omega) (by first | decide | exact bz_01 _ | omega)) (cwV 3 hts gX6_wind_X6_check rfl rfl rfl (by decide +kernel) ⟨Nat.le_of_ble_eq_true rfl, Nat.le_of_ble_eq_true rfl⟩) hK hNW hP hD hS hA rfl rfl rfl rfl (by decide) rfl rfl rfl rfl rfl rfl hl.1 rfl (Nat.le_of_ble_eq_true rfl) dX6_wind_59 ⟨Nat.zero_le _, Nat.zero_le _⟩ (fun H locs hP hD hS => ?_)
      refine li_top (b := 0) rfl ?_
      refine li_if_ne_f (tgt := 67) hx hb dX6_wind_62 (by decide) (by decide) (by decide) ?_
      refine li_const hx hb dX6_wind_65 ?_
      exact li_iret () hx hb hr hlocks hK hP hD hS dX6_wind_66 hQ rfl (congrArg iI (rfl))
  · refine lv_aload_n hx hb dX6_wind_8 rfl (lv_at hl 0 rfl) ?_
    refine lv_iload_n hx hb dX6_wind_9 rfl (lv_at hl 1 rfl) ?_
    refine li_const hx hb dX6_wind_10 ?_
    refine li_sub hx hb dX6_wind_11 ?_
    refine li_topI (b := wr (x - 1)) (iI_wr _) ?_
    refine cl_i0 (isC := [0, 1, 2, 3, 4]) (isR := []) (isN := [0, 1, 2, 3, 4]) (wr := []) (wn := cMd cI n L a rn sp cnt th (rowF w op tn pl en kd nb) as ln dr M0 M1 M2 M3 M4) (As := [.int (iI (wr (x - 1)))]) (rest := []) (r := bz (isO op (wr (x - 1)) = true)) (ci := 6) (q0 := 0) ⟨hx, hb, hml, hown, hts⟩ (c_X6_isOpenGate n L a rn sp cnt th w op tn pl en kd nb as ln dr M0 M1 M2 M3 M4 (wr (x - 1)) (by first | assumption | omega) (by first | assumption | omega) (by first | assumption | omega) (by first | assumption | omega) (by first | assumption | omega) (by first | exact wr_bd _ | omega)) (cwV 1 hts gX6_wind_X6_isOpenGate rfl rfl rfl (by decide +kernel) ⟨Nat.le_of_ble_eq_true rfl, Nat.le_of_ble_eq_true rfl⟩) hK hNW hP hD hS hA rfl rfl rfl rfl (by decide) rfl rfl rfl rfl rfl rfl hl.1 rfl (Nat.le_of_ble_eq_true rfl) dX6_wind_12 ⟨Nat.zero_le _, Nat.zero_le _⟩ (fun H locs hP hD hS => ?_)
    refine li_ifb_ne (tgt := 28) hx hb dX6_wind_15 (by decide) (fun c_15 => ?_) (fun c_15 => ?_)
    · refine li_const hx hb dX6_wind_28 ?_
      refine lv_goto (tgt := 33) hx hb dX6_wind_29 (by decide) ?_
      refine lv_istore_n (lv' := [(3, .int (iI 1)), (0, .ref M0), (1, .int (iI x)), (2, .int (iI y))]) hx hb dX6_wind_33 rfl hl (by decide) rfl (fun ls hl => ?_)
      refine lv_aload_n hx hb dX6_wind_34 rfl (lv_at hl 1 rfl) ?_
      refine lv_aload_n hx hb dX6_wind_35 rfl (lv_at hl 1 rfl) ?_
      refine lv_iload_n hx hb dX6_wind_36 rfl (lv_at hl 2 rfl) ?_
      refine cl_i0 (isC := [0, 1, 2, 3, 4]) (isR := []) (isN := [0, 1, 2, 3, 4]) (wr := []) (wn := cMd cI n L a rn sp cnt th (rowF w op tn pl en kd nb) as ln dr M0 M1 M2 M3 M4) (As := [.int (iI x)]) (rest := [.ref M0]) (r := bz (0 ≤ x ∧ x ≤ n)) (ci := 6) (q0 := 0) ⟨hx, hb, hml, hown, hts⟩ (c_X6_isGate n L a rn sp cnt th w op tn pl en kd nb as ln dr M0 M1 M2 M3 M4 x (by first | assumption | omega) (by first | assumption | omega) (by first | assumption | omega) (by first | assumption | omega)) (cwV 1 hts gX6_wind_X6_isGate rfl rfl rfl (by decide +kernel) ⟨Nat.le_of_ble_eq_true rfl, Nat.le_of_ble_eq_true rfl⟩) hK hNW hP hD hS hA rfl rfl rfl rfl (by decide) rfl rfl rfl rfl rfl rfl hl.1 rfl (Nat.le_of_ble_eq_true rfl) dX6_wind_37 ⟨Nat.zero_le _, Nat.zero_le _⟩ (fun H locs hP hD hS => ?_)
      refine li_top (b := 0) (bz_f (by exact hv)) ?_
      refine lv_iload_n hx hb dX6_wind_40 rfl (lv_at hl 3 rfl) ?_
      refine li_const hx hb dX6_wind_41 ?_
      refine li_const hx hb dX6_wind_42 ?_
      refine cs_i0 (isC := []) (isR := [0, 1, 2, 3, 4]) (isN := [0, 1, 2, 3, 4]) (wr := cMd cI n L a rn sp cnt th (rowF w op tn pl en kd nb) as ln dr M0 M1 M2 M3 M4) (wn := cMd cI n L a rn sp cnt th (rowF w op tn pl en kd nb) as ln dr M0 M1 M2 M3 M4) (As := [.int (iI y), .int (iI 0), .int (iI 5)]) (rest := [.int (iI 0), .ref M0]) (r := bz (0 ≤ y ∧ y ≤ 5)) ⟨hx, hb, hml, hown, hts⟩ (c_X6_isWithin y 0 5 (by first | assumption | omega) (by first | assumption | omega) (by first | assumption | omega)) (va_cwS 3 hts gX6_wind_X6_isWithin rfl rfl rfl (by decide +kernel) ⟨Nat.le_of_ble_eq_true rfl, Nat.le_of_ble_eq_true rfl⟩) hK hNW hP hD hS hA rfl rfl rfl rfl (by decide) rfl rfl rfl hl.1 rfl (Nat.le_of_ble_eq_true rfl) dX6_wind_43 ⟨Nat.zero_le _, Nat.zero_le _⟩ (fun H locs hP hD hS => ?_)
      refine lv_iload_n hx hb dX6_wind_46 rfl (lv_at hl 3 rfl) ?_
      refine li_if_eq (tgt := 54) hx hb dX6_wind_47 (by decide) (ib_i (by omega) (by omega)) (fun c_47 => ?_) (fun c_47 => ?_)
      · refine li_const hx hb dX6_wind_54 ?_
        refine lv_goto (tgt := 59) hx hb dX6_wind_55 (by decide) ?_
        refine cl_i0 (isC := [0, 1, 2, 3, 4]) (isR := []) (isN := [0, 1, 2, 3, 4]) (wr := []) (wn := cMd cI n L a rn sp cnt (chA 0 (bz (0 ≤ y ∧ y ≤ 5)) 1) (rowF w op tn pl en kd nb) as ln dr M0 M1 M2 M3 M4) (As := [.int (iI 0), .int (iI (bz (0 ≤ y ∧ y ≤ 5))), .int (iI 1)]) (rest := []) (r := bz (chA 0 (bz (0 ≤ y ∧ y ≤ 5)) 1 = 0)) (ci := 6) (q0 := 0) ⟨hx, hb, hml, hown, hts⟩ (c_X6_check n L a rn sp cnt th w op tn pl en kd nb as ln dr M0 M1 M2 M3 M4 0 (bz (0 ≤ y ∧ y ≤ 5)) 1 (by first | decide | exact bz_01 _ | omega) (by first | decide | exact bz_01 _ | omega) (by first | decide | exact bz_01 _ | omega)) (cwV 3 hts gX6_wind_X6_check rfl rfl rfl (by decide +kernel) ⟨Nat.le_of_ble_eq_true rfl, Nat.le_of_ble_eq_true rfl⟩) hK hNW hP hD hS hA rfl rfl rfl rfl (by decide) rfl rfl rfl rfl rfl rfl hl.1 rfl (Nat.le_of_ble_eq_true rfl) dX6_wind_59 ⟨Nat.zero_le _, Nat.zero_le _⟩ (fun H locs hP hD hS => ?_)
        refine li_top (b := 0) rfl ?_
        refine li_if_ne_f (tgt := 67) hx hb dX6_wind_62 (by decide) (by decide) (by decide) ?_
        refine li_const hx hb dX6_wind_65 ?_
        exact li_iret () hx hb hr hlocks hK hP hD hS dX6_wind_66 hQ rfl (congrArg iI (rfl))
      · refine lv_iload_n hx hb dX6_wind_50 rfl (lv_at hl 0 rfl) ?_
        refine li_if_ne_t (tgt := 58) hx hb dX6_wind_51 (by decide) (by decide) (by decide) ?_
        refine li_const hx hb dX6_wind_58 ?_
        refine cl_i0 (isC := [0, 1, 2, 3, 4]) (isR := []) (isN := [0, 1, 2, 3, 4]) (wr := []) (wn := cMd cI n L a rn sp cnt (chA 0 (bz (0 ≤ y ∧ y ≤ 5)) 0) (rowF w op tn pl en kd nb) as ln dr M0 M1 M2 M3 M4) (As := [.int (iI 0), .int (iI (bz (0 ≤ y ∧ y ≤ 5))), .int (iI 0)]) (rest := []) (r := bz (chA 0 (bz (0 ≤ y ∧ y ≤ 5)) 0 = 0)) (ci := 6) (q0 := 0) ⟨hx, hb, hml, hown, hts⟩ (c_X6_check n L a rn sp cnt th w op tn pl en kd nb as ln dr M0 M1 M2 M3 M4 0 (bz (0 ≤ y ∧ y ≤ 5)) 0 (by first | decide | exact bz_01 _ | omega) (by first | decide | exact bz_01 _ | omega) (by first | decide | exact bz_01 _ | omega)) (cwV 3 hts gX6_wind_X6_check rfl rfl rfl (by decide +kernel) ⟨Nat.le_of_ble_eq_true rfl, Nat.le_of_ble_eq_true rfl⟩) hK hNW hP hD hS hA rfl rfl rfl rfl (by decide) rfl rfl rfl rfl rfl rfl hl.1 rfl (Nat.le_of_ble_eq_true rfl) dX6_wind_59 ⟨Nat.zero_le _, Nat.zero_le _⟩ (fun H locs hP hD hS => ?_)
        refine li_top (b := 0) rfl ?_
        refine li_if_ne_f (tgt := 67) hx hb dX6_wind_62 (by decide) (by decide) (by decide) ?_
        refine li_const hx hb dX6_wind_65 ?_
        exact li_iret () hx hb hr hlocks hK hP hD hS dX6_wind_66 hQ rfl (congrArg iI (rfl))
    · refine lv_aload_n hx hb dX6_wind_18 rfl (lv_at hl 0 rfl) ?_
      refine lv_iload_n hx hb dX6_wind_19 rfl (lv_at hl 1 rfl) ?_
      refine li_const hx hb dX6_wind_20 ?_
      refine li_add hx hb dX6_wind_21 ?_
      refine li_topI (b := wr (x + 1)) (iI_wr _) ?_
      refine cl_i0 (isC := [0, 1, 2, 3, 4]) (isR := []) (isN := [0, 1, 2, 3, 4]) (wr := []) (wn := cMd cI n L a rn sp cnt th (rowF w op tn pl en kd nb) as ln dr M0 M1 M2 M3 M4) (As := [.int (iI (wr (x + 1)))]) (rest := []) (r := bz (isO op (wr (x + 1)) = true)) (ci := 6) (q0 := 0) ⟨hx, hb, hml, hown, hts⟩ (c_X6_isOpenGate n L a rn sp cnt th w op tn pl en kd nb as ln dr M0 M1 M2 M3 M4 (wr (x + 1)) (by first | assumption | omega) (by first | assumption | omega) (by first | assumption | omega) (by first | assumption | omega) (by first | assumption | omega) (by first | exact wr_bd _ | omega)) (cwV 1 hts gX6_wind_X6_isOpenGate rfl rfl rfl (by decide +kernel) ⟨Nat.le_of_ble_eq_true rfl, Nat.le_of_ble_eq_true rfl⟩) hK hNW hP hD hS hA rfl rfl rfl rfl (by decide) rfl rfl rfl rfl rfl rfl hl.1 rfl (Nat.le_of_ble_eq_true rfl) dX6_wind_22 ⟨Nat.zero_le _, Nat.zero_le _⟩ (fun H locs hP hD hS => ?_)
      refine li_ifb_eq (tgt := 32) hx hb dX6_wind_25 (by decide) (fun c_25 => ?_) (fun c_25 => ?_)
      · refine li_const hx hb dX6_wind_32 ?_
        refine lv_istore_n (lv' := [(3, .int (iI 0)), (0, .ref M0), (1, .int (iI x)), (2, .int (iI y))]) hx hb dX6_wind_33 rfl hl (by decide) rfl (fun ls hl => ?_)
        refine lv_aload_n hx hb dX6_wind_34 rfl (lv_at hl 1 rfl) ?_
        refine lv_aload_n hx hb dX6_wind_35 rfl (lv_at hl 1 rfl) ?_
        refine lv_iload_n hx hb dX6_wind_36 rfl (lv_at hl 2 rfl) ?_
        refine cl_i0 (isC := [0, 1, 2, 3, 4]) (isR := []) (isN := [0, 1, 2, 3, 4]) (wr := []) (wn := cMd cI n L a rn sp cnt th (rowF w op tn pl en kd nb) as ln dr M0 M1 M2 M3 M4) (As := [.int (iI x)]) (rest := [.ref M0]) (r := bz (0 ≤ x ∧ x ≤ n)) (ci := 6) (q0 := 0) ⟨hx, hb, hml, hown, hts⟩ (c_X6_isGate n L a rn sp cnt th w op tn pl en kd nb as ln dr M0 M1 M2 M3 M4 x (by first | assumption | omega) (by first | assumption | omega) (by first | assumption | omega) (by first | assumption | omega)) (cwV 1 hts gX6_wind_X6_isGate rfl rfl rfl (by decide +kernel) ⟨Nat.le_of_ble_eq_true rfl, Nat.le_of_ble_eq_true rfl⟩) hK hNW hP hD hS hA rfl rfl rfl rfl (by decide) rfl rfl rfl rfl rfl rfl hl.1 rfl (Nat.le_of_ble_eq_true rfl) dX6_wind_37 ⟨Nat.zero_le _, Nat.zero_le _⟩ (fun H locs hP hD hS => ?_)
        refine li_top (b := 0) (bz_f (by exact hv)) ?_
        refine lv_iload_n hx hb dX6_wind_40 rfl (lv_at hl 3 rfl) ?_
        refine li_const hx hb dX6_wind_41 ?_
        refine li_const hx hb dX6_wind_42 ?_
        refine cs_i0 (isC := []) (isR := [0, 1, 2, 3, 4]) (isN := [0, 1, 2, 3, 4]) (wr := cMd cI n L a rn sp cnt th (rowF w op tn pl en kd nb) as ln dr M0 M1 M2 M3 M4) (wn := cMd cI n L a rn sp cnt th (rowF w op tn pl en kd nb) as ln dr M0 M1 M2 M3 M4) (As := [.int (iI y), .int (iI 0), .int (iI 5)]) (rest := [.int (iI 0), .ref M0]) (r := bz (0 ≤ y ∧ y ≤ 5)) ⟨hx, hb, hml, hown, hts⟩ (c_X6_isWithin y 0 5 (by first | assumption | omega) (by first | assumption | omega) (by first | assumption | omega)) (va_cwS 3 hts gX6_wind_X6_isWithin rfl rfl rfl (by decide +kernel) ⟨Nat.le_of_ble_eq_true rfl, Nat.le_of_ble_eq_true rfl⟩) hK hNW hP hD hS hA rfl rfl rfl rfl (by decide) rfl rfl rfl hl.1 rfl (Nat.le_of_ble_eq_true rfl) dX6_wind_43 ⟨Nat.zero_le _, Nat.zero_le _⟩ (fun H locs hP hD hS => ?_)
        refine lv_iload_n hx hb dX6_wind_46 rfl (lv_at hl 3 rfl) ?_
        refine li_if_eq (tgt := 54) hx hb dX6_wind_47 (by decide) (ib_i (by omega) (by omega)) (fun c_47 => ?_) (fun c_47 => ?_)
        · refine li_const hx hb dX6_wind_54 ?_
          refine lv_goto (tgt := 59) hx hb dX6_wind_55 (by decide) ?_
          refine cl_i0 (isC := [0, 1, 2, 3, 4]) (isR := []) (isN := [0, 1, 2, 3, 4]) (wr := []) (wn := cMd cI n L a rn sp cnt (chA 0 (bz (0 ≤ y ∧ y ≤ 5)) 1) (rowF w op tn pl en kd nb) as ln dr M0 M1 M2 M3 M4) (As := [.int (iI 0), .int (iI (bz (0 ≤ y ∧ y ≤ 5))), .int (iI 1)]) (rest := []) (r := bz (chA 0 (bz (0 ≤ y ∧ y ≤ 5)) 1 = 0)) (ci := 6) (q0 := 0) ⟨hx, hb, hml, hown, hts⟩ (c_X6_check n L a rn sp cnt th w op tn pl en kd nb as ln dr M0 M1 M2 M3 M4 0 (bz (0 ≤ y ∧ y ≤ 5)) 1 (by first | decide | exact bz_01 _ | omega) (by first | decide | exact bz_01 _ | omega) (by first | decide | exact bz_01 _ | omega)) (cwV 3 hts gX6_wind_X6_check rfl rfl rfl (by decide +kernel) ⟨Nat.le_of_ble_eq_true rfl, Nat.le_of_ble_eq_true rfl⟩) hK hNW hP hD hS hA rfl rfl rfl rfl (by decide) rfl rfl rfl rfl rfl rfl hl.1 rfl (Nat.le_of_ble_eq_true rfl) dX6_wind_59 ⟨Nat.zero_le _, Nat.zero_le _⟩ (fun H locs hP hD hS => ?_)
          refine li_top (b := 0) rfl ?_
          refine li_if_ne_f (tgt := 67) hx hb dX6_wind_62 (by decide) (by decide) (by decide) ?_
          refine li_const hx hb dX6_wind_65 ?_
          exact li_iret () hx hb hr hlocks hK hP hD hS dX6_wind_66 hQ rfl (congrArg iI (rfl))
        · refine lv_iload_n hx hb dX6_wind_50 rfl (lv_at hl 0 rfl) ?_
          refine li_if_ne_f (tgt := 58) hx hb dX6_wind_51 (by decide) (by decide) (by decide) ?_
          refine li_const hx hb dX6_wind_54 ?_
          refine lv_goto (tgt := 59) hx hb dX6_wind_55 (by decide) ?_
          refine cl_i0 (isC := [0, 1, 2, 3, 4]) (isR := []) (isN := [0, 1, 2, 3, 4]) (wr := []) (wn := cMd cI n L a rn sp cnt (chA 0 (bz (0 ≤ y ∧ y ≤ 5)) 1) (rowF w op tn pl en kd nb) as ln dr M0 M1 M2 M3 M4) (As := [.int (iI 0), .int (iI (bz (0 ≤ y ∧ y ≤ 5))), .int (iI 1)]) (rest := []) (r := bz (chA 0 (bz (0 ≤ y ∧ y ≤ 5)) 1 = 0)) (ci := 6) (q0 := 0) ⟨hx, hb, hml, hown, hts⟩ (c_X6_check n L a rn sp cnt th w op tn pl en kd nb as ln dr M0 M1 M2 M3 M4 0 (bz (0 ≤ y ∧ y ≤ 5)) 1 (by first | decide | exact bz_01 _ | omega) (by first | decide | exact bz_01 _ | omega) (by first | decide | exact bz_01 _ | omega)) (cwV 3 hts gX6_wind_X6_check rfl rfl rfl (by decide +kernel) ⟨Nat.le_of_ble_eq_true rfl, Nat.le_of_ble_eq_true rfl⟩) hK hNW hP hD hS hA rfl rfl rfl rfl (by decide) rfl rfl rfl rfl rfl rfl hl.1 rfl (Nat.le_of_ble_eq_true rfl) dX6_wind_59 ⟨Nat.zero_le _, Nat.zero_le _⟩ (fun H locs hP hD hS => ?_)
          refine li_top (b := 0) rfl ?_
          refine li_if_ne_f (tgt := 67) hx hb dX6_wind_62 (by decide) (by decide) (by decide) ?_
          refine li_const hx hb dX6_wind_65 ?_
          exact li_iret () hx hb hr hlocks hK hP hD hS dX6_wind_66 hQ rfl (congrArg iI (rfl))
      · refine li_const hx hb dX6_wind_28 ?_
        refine lv_goto (tgt := 33) hx hb dX6_wind_29 (by decide) ?_
        refine lv_istore_n (lv' := [(3, .int (iI 1)), (0, .ref M0), (1, .int (iI x)), (2, .int (iI y))]) hx hb dX6_wind_33 rfl hl (by decide) rfl (fun ls hl => ?_)
        refine lv_aload_n hx hb dX6_wind_34 rfl (lv_at hl 1 rfl) ?_
        refine lv_aload_n hx hb dX6_wind_35 rfl (lv_at hl 1 rfl) ?_
        refine lv_iload_n hx hb dX6_wind_36 rfl (lv_at hl 2 rfl) ?_
        refine cl_i0 (isC := [0, 1, 2, 3, 4]) (isR := []) (isN := [0, 1, 2, 3, 4]) (wr := []) (wn := cMd cI n L a rn sp cnt th (rowF w op tn pl en kd nb) as ln dr M0 M1 M2 M3 M4) (As := [.int (iI x)]) (rest := [.ref M0]) (r := bz (0 ≤ x ∧ x ≤ n)) (ci := 6) (q0 := 0) ⟨hx, hb, hml, hown, hts⟩ (c_X6_isGate n L a rn sp cnt th w op tn pl en kd nb as ln dr M0 M1 M2 M3 M4 x (by first | assumption | omega) (by first | assumption | omega) (by first | assumption | omega) (by first | assumption | omega)) (cwV 1 hts gX6_wind_X6_isGate rfl rfl rfl (by decide +kernel) ⟨Nat.le_of_ble_eq_true rfl, Nat.le_of_ble_eq_true rfl⟩) hK hNW hP hD hS hA rfl rfl rfl rfl (by decide) rfl rfl rfl rfl rfl rfl hl.1 rfl (Nat.le_of_ble_eq_true rfl) dX6_wind_37 ⟨Nat.zero_le _, Nat.zero_le _⟩ (fun H locs hP hD hS => ?_)
        refine li_top (b := 0) (bz_f (by exact hv)) ?_
        refine lv_iload_n hx hb dX6_wind_40 rfl (lv_at hl 3 rfl) ?_
        refine li_const hx hb dX6_wind_41 ?_
        refine li_const hx hb dX6_wind_42 ?_
        refine cs_i0 (isC := []) (isR := [0, 1, 2, 3, 4]) (isN := [0, 1, 2, 3, 4]) (wr := cMd cI n L a rn sp cnt th (rowF w op tn pl en kd nb) as ln dr M0 M1 M2 M3 M4) (wn := cMd cI n L a rn sp cnt th (rowF w op tn pl en kd nb) as ln dr M0 M1 M2 M3 M4) (As := [.int (iI y), .int (iI 0), .int (iI 5)]) (rest := [.int (iI 0), .ref M0]) (r := bz (0 ≤ y ∧ y ≤ 5)) ⟨hx, hb, hml, hown, hts⟩ (c_X6_isWithin y 0 5 (by first | assumption | omega) (by first | assumption | omega) (by first | assumption | omega)) (va_cwS 3 hts gX6_wind_X6_isWithin rfl rfl rfl (by decide +kernel) ⟨Nat.le_of_ble_eq_true rfl, Nat.le_of_ble_eq_true rfl⟩) hK hNW hP hD hS hA rfl rfl rfl rfl (by decide) rfl rfl rfl hl.1 rfl (Nat.le_of_ble_eq_true rfl) dX6_wind_43 ⟨Nat.zero_le _, Nat.zero_le _⟩ (fun H locs hP hD hS => ?_)
        refine lv_iload_n hx hb dX6_wind_46 rfl (lv_at hl 3 rfl) ?_
        refine li_if_eq (tgt := 54) hx hb dX6_wind_47 (by decide) (ib_i (by omega) (by omega)) (fun c_47 => ?_) (fun c_47 => ?_)
        · refine li_const hx hb dX6_wind_54 ?_
          refine lv_goto (tgt := 59) hx hb dX6_wind_55 (by decide) ?_
          refine cl_i0 (isC := [0, 1, 2, 3, 4]) (isR := []) (isN := [0, 1, 2, 3, 4]) (wr := []) (wn := cMd cI n L a rn sp cnt (chA 0 (bz (0 ≤ y ∧ y ≤ 5)) 1) (rowF w op tn pl en kd nb) as ln dr M0 M1 M2 M3 M4) (As := [.int (iI 0), .int (iI (bz (0 ≤ y ∧ y ≤ 5))), .int (iI 1)]) (rest := []) (r := bz (chA 0 (bz (0 ≤ y ∧ y ≤ 5)) 1 = 0)) (ci := 6) (q0 := 0) ⟨hx, hb, hml, hown, hts⟩ (c_X6_check n L a rn sp cnt th w op tn pl en kd nb as ln dr M0 M1 M2 M3 M4 0 (bz (0 ≤ y ∧ y ≤ 5)) 1 (by first | decide | exact bz_01 _ | omega) (by first | decide | exact bz_01 _ | omega) (by first | decide | exact bz_01 _ | omega)) (cwV 3 hts gX6_wind_X6_check rfl rfl rfl (by decide +kernel) ⟨Nat.le_of_ble_eq_true rfl, Nat.le_of_ble_eq_true rfl⟩) hK hNW hP hD hS hA rfl rfl rfl rfl (by decide) rfl rfl rfl rfl rfl rfl hl.1 rfl (Nat.le_of_ble_eq_true rfl) dX6_wind_59 ⟨Nat.zero_le _, Nat.zero_le _⟩ (fun H locs hP hD hS => ?_)
          refine li_top (b := 0) rfl ?_
          refine li_if_ne_f (tgt := 67) hx hb dX6_wind_62 (by decide) (by decide) (by decide) ?_
          refine li_const hx hb dX6_wind_65 ?_
          exact li_iret () hx hb hr hlocks hK hP hD hS dX6_wind_66 hQ rfl (congrArg iI (rfl))
        · refine lv_iload_n hx hb dX6_wind_50 rfl (lv_at hl 0 rfl) ?_
          refine li_if_ne_t (tgt := 58) hx hb dX6_wind_51 (by decide) (by decide) (by decide) ?_
          refine li_const hx hb dX6_wind_58 ?_
          refine cl_i0 (isC := [0, 1, 2, 3, 4]) (isR := []) (isN := [0, 1, 2, 3, 4]) (wr := []) (wn := cMd cI n L a rn sp cnt (chA 0 (bz (0 ≤ y ∧ y ≤ 5)) 0) (rowF w op tn pl en kd nb) as ln dr M0 M1 M2 M3 M4) (As := [.int (iI 0), .int (iI (bz (0 ≤ y ∧ y ≤ 5))), .int (iI 0)]) (rest := []) (r := bz (chA 0 (bz (0 ≤ y ∧ y ≤ 5)) 0 = 0)) (ci := 6) (q0 := 0) ⟨hx, hb, hml, hown, hts⟩ (c_X6_check n L a rn sp cnt th w op tn pl en kd nb as ln dr M0 M1 M2 M3 M4 0 (bz (0 ≤ y ∧ y ≤ 5)) 0 (by first | decide | exact bz_01 _ | omega) (by first | decide | exact bz_01 _ | omega) (by first | decide | exact bz_01 _ | omega)) (cwV 3 hts gX6_wind_X6_check rfl rfl rfl (by decide +kernel) ⟨Nat.le_of_ble_eq_true rfl, Nat.le_of_ble_eq_true rfl⟩) hK hNW hP hD hS hA rfl rfl rfl rfl (by decide) rfl rfl rfl rfl rfl rfl hl.1 rfl (Nat.le_of_ble_eq_true rfl) dX6_wind_59 ⟨Nat.zero_le _, Nat.zero_le _⟩ (fun H locs hP hD hS => ?_)
          refine li_top (b := 0) rfl ?_
          refine li_if_ne_f (tgt := 67) hx hb dX6_wind_62 (by decide) (by decide) (by decide) ?_
          refine li_const hx hb dX6_wind_65 ?_
          exact li_iret () hx hb hr hlocks hK hP hD hS dX6_wind_66 hQ rfl (congrArg iI (rfl))

set_option maxRecDepth 100000 in
set_option maxHeartbeats 4000000 in
theorem c_X6_wind_no2 {l : Launch} {D : va_G} {cI cZ cJ : ClassId} (n : Int) (L : Int) (a : Int) (rn : Int) (sp : Int) (cnt : Int) (th : Int) (w : Wt) (op : Int → Int) (tn : Int → Int) (pl : Int → Int) (en : Int) (kd : Int → Int) (nb : Int → Int) (as : Int → Int) (ln : Int → Int) (dr : Int → Int) (M0 M1 M2 M3 M4 : Nat) (x : Int) (y : Int) (hn : 1 ≤ n ∧ n ≤ 6) (hL : 5 ≤ L ∧ L ≤ 40) (ha : 1 ≤ a ∧ a ≤ 50) (hop : opB op) (hoz : ∀ g, n < g → op g = 0) (htn : tnB tn) (i_x : -2147483648 ≤ x ∧ x < 2147483648) (i_y : -2147483648 ≤ y ∧ y < 2147483648) (hv : 0 ≤ x ∧ x ≤ n) (hy2 : ¬ (0 ≤ y ∧ y ≤ 5)) : Di l yX6_wind wsX6_wind 25 [.ref M0, .int (iI x), .int (iI y)] D (ty3 cI cZ cJ) (cMd cI n L a rn sp cnt th (rowF w op tn pl en kd nb) as ln dr M0 M1 M2 M3 M4) (0) (cMd cI n L a rn sp cnt 2 (rowF w op tn pl en kd nb) as ln dr M0 M1 M2 M3 M4) := by
  refine ct_i (plainFor_of_name (by decide)) rfl (Nat.le_of_ble_eq_true rfl) ?_
  intro p e s mI args below meth c_0 ls A hx hb hr hml hts hown hlocks hin hA hP hK hD hNW hS hl Q hQ
  have hown : s.vm.findClass RX6 = some mI.cls := hown
  have hl : lv_has ls 5 [(0, .ref M0), (1, .int (iI x)), (2, .int (iI y))] := hl
  refine lv_aload_n hx hb dX6_wind_0 rfl (lv_at hl 0 rfl) ?_
  refine lv_iload_n hx hb dX6_wind_1 rfl (lv_at hl 1 rfl) ?_
  refine cl_i0 (isC := [0, 1, 2, 3, 4]) (isR := []) (isN := [0, 1, 2, 3, 4]) (wr := []) (wn := cMd cI n L a rn sp cnt th (rowF w op tn pl en kd nb) as ln dr M0 M1 M2 M3 M4) (As := [.int (iI x)]) (rest := []) (r := bz (isO op x = true)) (ci := 6) (q0 := 0) ⟨hx, hb, hml, hown, hts⟩ (c_X6_isOpenGate n L a rn sp cnt th w op tn pl en kd nb as ln dr M0 M1 M2 M3 M4 x (by first | assumption | omega) (by first | assumption | omega) (by first | assumption | omega) (by first | assumption | omega) (by first | assumption | omega) (by first | assumption | omega)) (cwV 1 hts gX6_wind_X6_isOpenGate rfl rfl rfl (by decide +kernel) ⟨Nat.le_of_ble_eq_true rfl, Nat.le_of_ble_eq_true rfl⟩) hK hNW hP hD hS hA rfl rfl rfl rfl (by decide) rfl rfl rfl rfl rfl rfl hl.1 rfl (Nat.le_of_ble_eq_true rfl) dX6_wind_2 ⟨Nat.zero_le _, Nat.zero_le _⟩ (fun H locs hP hD hS => ?_)
  refine li_ifb_ne (tgt := 28) hx hb dX6_wind_5 (by decide) (fun c_5 => ?_) (fun c_5 => ?_)
  · refine li_const hx hb dX6_wind_28 ?_
    refine lv_goto (tgt := 33) hx hb dX6_wind_29 (by decide) ?_
    refine lv_istore_n (lv' := [(3, .int (iI 1)), (0, .ref M0), (1, .int (iI x)), (2, .int (iI y))]) hx hb dX6_wind_33 rfl hl (by decide) rfl (fun ls hl => ?_)
    refine lv_aload_n hx hb dX6_wind_34 rfl (lv_at hl 1 rfl) ?_
    refine lv_aload_n hx hb dX6_wind_35 rfl (lv_at hl 1 rfl) ?_
    refine lv_iload_n hx hb dX6_wind_36 rfl (lv_at hl 2 rfl) ?_
    refine cl_i0 (isC := [0, 1, 2, 3, 4]) (isR := []) (isN := [0, 1, 2, 3, 4]) (wr := []) (wn := cMd cI n L a rn sp cnt th (rowF w op tn pl en kd nb) as ln dr M0 M1 M2 M3 M4) (As := [.int (iI x)]) (rest := [.ref M0]) (r := bz (0 ≤ x ∧ x ≤ n)) (ci := 6) (q0 := 0) ⟨hx, hb, hml, hown, hts⟩ (c_X6_isGate n L a rn sp cnt th w op tn pl en kd nb as ln dr M0 M1 M2 M3 M4 x (by first | assumption | omega) (by first | assumption | omega) (by first | assumption | omega) (by first | assumption | omega)) (cwV 1 hts gX6_wind_X6_isGate rfl rfl rfl (by decide +kernel) ⟨Nat.le_of_ble_eq_true rfl, Nat.le_of_ble_eq_true rfl⟩) hK hNW hP hD hS hA rfl rfl rfl rfl (by decide) rfl rfl rfl rfl rfl rfl hl.1 rfl (Nat.le_of_ble_eq_true rfl) dX6_wind_37 ⟨Nat.zero_le _, Nat.zero_le _⟩ (fun H locs hP hD hS => ?_)
    refine li_top (b := 1) (bz_t (by exact hv)) ?_
    refine lv_iload_n hx hb dX6_wind_40 rfl (lv_at hl 3 rfl) ?_
    refine li_const hx hb dX6_wind_41 ?_
    refine li_const hx hb dX6_wind_42 ?_
    refine cs_i0 (isC := []) (isR := [0, 1, 2, 3, 4]) (isN := [0, 1, 2, 3, 4]) (wr := cMd cI n L a rn sp cnt th (rowF w op tn pl en kd nb) as ln dr M0 M1 M2 M3 M4) (wn := cMd cI n L a rn sp cnt th (rowF w op tn pl en kd nb) as ln dr M0 M1 M2 M3 M4) (As := [.int (iI y), .int (iI 0), .int (iI 5)]) (rest := [.int (iI 1), .ref M0]) (r := bz (0 ≤ y ∧ y ≤ 5)) ⟨hx, hb, hml, hown, hts⟩ (c_X6_isWithin y 0 5 (by first | assumption | omega) (by first | assumption | omega) (by first | assumption | omega)) (va_cwS 3 hts gX6_wind_X6_isWithin rfl rfl rfl (by decide +kernel) ⟨Nat.le_of_ble_eq_true rfl, Nat.le_of_ble_eq_true rfl⟩) hK hNW hP hD hS hA rfl rfl rfl rfl (by decide) rfl rfl rfl hl.1 rfl (Nat.le_of_ble_eq_true rfl) dX6_wind_43 ⟨Nat.zero_le _, Nat.zero_le _⟩ (fun H locs hP hD hS => ?_)
    refine li_top (b := 0) (bz_f (by exact hy2)) ?_
    refine lv_iload_n hx hb dX6_wind_46 rfl (lv_at hl 3 rfl) ?_
    refine li_if_eq (tgt := 54) hx hb dX6_wind_47 (by decide) (ib_i (by omega) (by omega)) (fun c_47 => ?_) (fun c_47 => ?_)
    · refine li_const hx hb dX6_wind_54 ?_
      refine lv_goto (tgt := 59) hx hb dX6_wind_55 (by decide) ?_
      refine cl_i0 (isC := [0, 1, 2, 3, 4]) (isR := []) (isN := [0, 1, 2, 3, 4]) (wr := []) (wn := cMd cI n L a rn sp cnt (chA 1 0 1) (rowF w op tn pl en kd nb) as ln dr M0 M1 M2 M3 M4) (As := [.int (iI 1), .int (iI 0), .int (iI 1)]) (rest := []) (r := bz (chA 1 0 1 = 0)) (ci := 6) (q0 := 0) ⟨hx, hb, hml, hown, hts⟩ (c_X6_check n L a rn sp cnt th w op tn pl en kd nb as ln dr M0 M1 M2 M3 M4 1 0 1 (by first | decide | exact bz_01 _ | omega) (by first | decide | exact bz_01 _ | omega) (by first | decide | exact bz_01 _ | omega)) (cwV 3 hts gX6_wind_X6_check rfl rfl rfl (by decide +kernel) ⟨Nat.le_of_ble_eq_true rfl, Nat.le_of_ble_eq_true rfl⟩) hK hNW hP hD hS hA rfl rfl rfl rfl (by decide) rfl rfl rfl rfl rfl rfl hl.1 rfl (Nat.le_of_ble_eq_true rfl) dX6_wind_59 ⟨Nat.zero_le _, Nat.zero_le _⟩ (fun H locs hP hD hS => ?_)
      refine li_top (b := 0) rfl ?_
      refine li_if_ne_f (tgt := 67) hx hb dX6_wind_62 (by decide) (by decide) (by decide) ?_
      refine li_const hx hb dX6_wind_65 ?_
      exact li_iret () hx hb hr hlocks hK hP hD hS dX6_wind_66 hQ rfl (congrArg iI (rfl))
    · refine lv_iload_n hx hb dX6_wind_50 rfl (lv_at hl 0 rfl) ?_
      refine li_if_ne_t (tgt := 58) hx hb dX6_wind_51 (by decide) (by decide) (by decide) ?_
      refine li_const hx hb dX6_wind_58 ?_
      refine cl_i0 (isC := [0, 1, 2, 3, 4]) (isR := []) (isN := [0, 1, 2, 3, 4]) (wr := []) (wn := cMd cI n L a rn sp cnt (chA 1 0 0) (rowF w op tn pl en kd nb) as ln dr M0 M1 M2 M3 M4) (As := [.int (iI 1), .int (iI 0), .int (iI 0)]) (rest := []) (r := bz (chA 1 0 0 = 0)) (ci := 6) (q0 := 0) ⟨hx, hb, hml, hown, hts⟩ (c_X6_check n L a rn sp cnt th w op tn pl en kd nb as ln dr M0 M1 M2 M3 M4 1 0 0 (by first | decide | exact bz_01 _ | omega) (by first | decide | exact bz_01 _ | omega) (by first | decide | exact bz_01 _ | omega)) (cwV 3 hts gX6_wind_X6_check rfl rfl rfl (by decide +kernel) ⟨Nat.le_of_ble_eq_true rfl, Nat.le_of_ble_eq_true rfl⟩) hK hNW hP hD hS hA rfl rfl rfl rfl (by decide) rfl rfl rfl rfl rfl rfl hl.1 rfl (Nat.le_of_ble_eq_true rfl) dX6_wind_59 ⟨Nat.zero_le _, Nat.zero_le _⟩ (fun H locs hP hD hS => ?_)
      refine li_top (b := 0) rfl ?_
      refine li_if_ne_f (tgt := 67) hx hb dX6_wind_62 (by decide) (by decide) (by decide) ?_
      refine li_const hx hb dX6_wind_65 ?_
      exact li_iret () hx hb hr hlocks hK hP hD hS dX6_wind_66 hQ rfl (congrArg iI (rfl))
  · refine lv_aload_n hx hb dX6_wind_8 rfl (lv_at hl 0 rfl) ?_
    refine lv_iload_n hx hb dX6_wind_9 rfl (lv_at hl 1 rfl) ?_
    refine li_const hx hb dX6_wind_10 ?_
    refine li_sub hx hb dX6_wind_11 ?_
    refine cl_i0 (isC := [0, 1, 2, 3, 4]) (isR := []) (isN := [0, 1, 2, 3, 4]) (wr := []) (wn := cMd cI n L a rn sp cnt th (rowF w op tn pl en kd nb) as ln dr M0 M1 M2 M3 M4) (As := [.int (iI (x - 1))]) (rest := []) (r := bz (isO op (x - 1) = true)) (ci := 6) (q0 := 0) ⟨hx, hb, hml, hown, hts⟩ (c_X6_isOpenGate n L a rn sp cnt th w op tn pl en kd nb as ln dr M0 M1 M2 M3 M4 (x - 1) (by first | assumption | omega) (by first | assumption | omega) (by first | assumption | omega) (by first | assumption | omega) (by first | assumption | omega) (by first | assumption | omega)) (cwV 1 hts gX6_wind_X6_isOpenGate rfl rfl rfl (by decide +kernel) ⟨Nat.le_of_ble_eq_true rfl, Nat.le_of_ble_eq_true rfl⟩) hK hNW hP hD hS hA rfl rfl rfl rfl (by decide) rfl rfl rfl rfl rfl rfl hl.1 rfl (Nat.le_of_ble_eq_true rfl) dX6_wind_12 ⟨Nat.zero_le _, Nat.zero_le _⟩ (fun H locs hP hD hS => ?_)
    refine li_ifb_ne (tgt := 28) hx hb dX6_wind_15 (by decide) (fun c_15 => ?_) (fun c_15 => ?_)
    · refine li_const hx hb dX6_wind_28 ?_
      refine lv_goto (tgt := 33) hx hb dX6_wind_29 (by decide) ?_
      refine lv_istore_n (lv' := [(3, .int (iI 1)), (0, .ref M0), (1, .int (iI x)), (2, .int (iI y))]) hx hb dX6_wind_33 rfl hl (by decide) rfl (fun ls hl => ?_)
      refine lv_aload_n hx hb dX6_wind_34 rfl (lv_at hl 1 rfl) ?_
      refine lv_aload_n hx hb dX6_wind_35 rfl (lv_at hl 1 rfl) ?_
      refine lv_iload_n hx hb dX6_wind_36 rfl (lv_at hl 2 rfl) ?_
      refine cl_i0 (isC := [0, 1, 2, 3, 4]) (isR := []) (isN := [0, 1, 2, 3, 4]) (wr := []) (wn := cMd cI n L a rn sp cnt th (rowF w op tn pl en kd nb) as ln dr M0 M1 M2 M3 M4) (As := [.int (iI x)]) (rest := [.ref M0]) (r := bz (0 ≤ x ∧ x ≤ n)) (ci := 6) (q0 := 0) ⟨hx, hb, hml, hown, hts⟩ (c_X6_isGate n L a rn sp cnt th w op tn pl en kd nb as ln dr M0 M1 M2 M3 M4 x (by first | assumption | omega) (by first | assumption | omega) (by first | assumption | omega) (by first | assumption | omega)) (cwV 1 hts gX6_wind_X6_isGate rfl rfl rfl (by decide +kernel) ⟨Nat.le_of_ble_eq_true rfl, Nat.le_of_ble_eq_true rfl⟩) hK hNW hP hD hS hA rfl rfl rfl rfl (by decide) rfl rfl rfl rfl rfl rfl hl.1 rfl (Nat.le_of_ble_eq_true rfl) dX6_wind_37 ⟨Nat.zero_le _, Nat.zero_le _⟩ (fun H locs hP hD hS => ?_)
      refine li_top (b := 1) (bz_t (by exact hv)) ?_
      refine lv_iload_n hx hb dX6_wind_40 rfl (lv_at hl 3 rfl) ?_
      refine li_const hx hb dX6_wind_41 ?_
      refine li_const hx hb dX6_wind_42 ?_
      refine cs_i0 (isC := []) (isR := [0, 1, 2, 3, 4]) (isN := [0, 1, 2, 3, 4]) (wr := cMd cI n L a rn sp cnt th (rowF w op tn pl en kd nb) as ln dr M0 M1 M2 M3 M4) (wn := cMd cI n L a rn sp cnt th (rowF w op tn pl en kd nb) as ln dr M0 M1 M2 M3 M4) (As := [.int (iI y), .int (iI 0), .int (iI 5)]) (rest := [.int (iI 1), .ref M0]) (r := bz (0 ≤ y ∧ y ≤ 5)) ⟨hx, hb, hml, hown, hts⟩ (c_X6_isWithin y 0 5 (by first | assumption | omega) (by first | assumption | omega) (by first | assumption | omega)) (va_cwS 3 hts gX6_wind_X6_isWithin rfl rfl rfl (by decide +kernel) ⟨Nat.le_of_ble_eq_true rfl, Nat.le_of_ble_eq_true rfl⟩) hK hNW hP hD hS hA rfl rfl rfl rfl (by decide) rfl rfl rfl hl.1 rfl (Nat.le_of_ble_eq_true rfl) dX6_wind_43 ⟨Nat.zero_le _, Nat.zero_le _⟩ (fun H locs hP hD hS => ?_)
      refine li_top (b := 0) (bz_f (by exact hy2)) ?_
      refine lv_iload_n hx hb dX6_wind_46 rfl (lv_at hl 3 rfl) ?_
      refine li_if_eq (tgt := 54) hx hb dX6_wind_47 (by decide) (ib_i (by omega) (by omega)) (fun c_47 => ?_) (fun c_47 => ?_)
      · refine li_const hx hb dX6_wind_54 ?_
        refine lv_goto (tgt := 59) hx hb dX6_wind_55 (by decide) ?_
        refine cl_i0 (isC := [0, 1, 2, 3, 4]) (isR := []) (isN := [0, 1, 2, 3, 4]) (wr := []) (wn := cMd cI n L a rn sp cnt (chA 1 0 1) (rowF w op tn pl en kd nb) as ln dr M0 M1 M2 M3 M4) (As := [.int (iI 1), .int (iI 0), .int (iI 1)]) (rest := []) (r := bz (chA 1 0 1 = 0)) (ci := 6) (q0 := 0) ⟨hx, hb, hml, hown, hts⟩ (c_X6_check n L a rn sp cnt th w op tn pl en kd nb as ln dr M0 M1 M2 M3 M4 1 0 1 (by first | decide | exact bz_01 _ | omega) (by first | decide | exact bz_01 _ | omega) (by first | decide | exact bz_01 _ | omega)) (cwV 3 hts gX6_wind_X6_check rfl rfl rfl (by decide +kernel) ⟨Nat.le_of_ble_eq_true rfl, Nat.le_of_ble_eq_true rfl⟩) hK hNW hP hD hS hA rfl rfl rfl rfl (by decide) rfl rfl rfl rfl rfl rfl hl.1 rfl (Nat.le_of_ble_eq_true rfl) dX6_wind_59 ⟨Nat.zero_le _, Nat.zero_le _⟩ (fun H locs hP hD hS => ?_)
        refine li_top (b := 0) rfl ?_
        refine li_if_ne_f (tgt := 67) hx hb dX6_wind_62 (by decide) (by decide) (by decide) ?_
        refine li_const hx hb dX6_wind_65 ?_
        exact li_iret () hx hb hr hlocks hK hP hD hS dX6_wind_66 hQ rfl (congrArg iI (rfl))
      · refine lv_iload_n hx hb dX6_wind_50 rfl (lv_at hl 0 rfl) ?_
        refine li_if_ne_t (tgt := 58) hx hb dX6_wind_51 (by decide) (by decide) (by decide) ?_
        refine li_const hx hb dX6_wind_58 ?_
        refine cl_i0 (isC := [0, 1, 2, 3, 4]) (isR := []) (isN := [0, 1, 2, 3, 4]) (wr := []) (wn := cMd cI n L a rn sp cnt (chA 1 0 0) (rowF w op tn pl en kd nb) as ln dr M0 M1 M2 M3 M4) (As := [.int (iI 1), .int (iI 0), .int (iI 0)]) (rest := []) (r := bz (chA 1 0 0 = 0)) (ci := 6) (q0 := 0) ⟨hx, hb, hml, hown, hts⟩ (c_X6_check n L a rn sp cnt th w op tn pl en kd nb as ln dr M0 M1 M2 M3 M4 1 0 0 (by first | decide | exact bz_01 _ | omega) (by first | decide | exact bz_01 _ | omega) (by first | decide | exact bz_01 _ | omega)) (cwV 3 hts gX6_wind_X6_check rfl rfl rfl (by decide +kernel) ⟨Nat.le_of_ble_eq_true rfl, Nat.le_of_ble_eq_true rfl⟩) hK hNW hP hD hS hA rfl rfl rfl rfl (by decide) rfl rfl rfl rfl rfl rfl hl.1 rfl (Nat.le_of_ble_eq_true rfl) dX6_wind_59 ⟨Nat.zero_le _, Nat.zero_le _⟩ (fun H locs hP hD hS => ?_)
        refine li_top (b := 0) rfl ?_
        refine li_if_ne_f (tgt := 67) hx hb dX6_wind_62 (by decide) (by decide) (by decide) ?_
        refine li_const hx hb dX6_wind_65 ?_
        exact li_iret () hx hb hr hlocks hK hP hD hS dX6_wind_66 hQ rfl (congrArg iI (rfl))
    · refine lv_aload_n hx hb dX6_wind_18 rfl (lv_at hl 0 rfl) ?_
      refine lv_iload_n hx hb dX6_wind_19 rfl (lv_at hl 1 rfl) ?_
      refine li_const hx hb dX6_wind_20 ?_
      refine li_add hx hb dX6_wind_21 ?_
      refine cl_i0 (isC := [0, 1, 2, 3, 4]) (isR := []) (isN := [0, 1, 2, 3, 4]) (wr := []) (wn := cMd cI n L a rn sp cnt th (rowF w op tn pl en kd nb) as ln dr M0 M1 M2 M3 M4) (As := [.int (iI (x + 1))]) (rest := []) (r := bz (isO op (x + 1) = true)) (ci := 6) (q0 := 0) ⟨hx, hb, hml, hown, hts⟩ (c_X6_isOpenGate n L a rn sp cnt th w op tn pl en kd nb as ln dr M0 M1 M2 M3 M4 (x + 1) (by first | assumption | omega) (by first | assumption | omega) (by first | assumption | omega) (by first | assumption | omega) (by first | assumption | omega) (by first | assumption | omega)) (cwV 1 hts gX6_wind_X6_isOpenGate rfl rfl rfl (by decide +kernel) ⟨Nat.le_of_ble_eq_true rfl, Nat.le_of_ble_eq_true rfl⟩) hK hNW hP hD hS hA rfl rfl rfl rfl (by decide) rfl rfl rfl rfl rfl rfl hl.1 rfl (Nat.le_of_ble_eq_true rfl) dX6_wind_22 ⟨Nat.zero_le _, Nat.zero_le _⟩ (fun H locs hP hD hS => ?_)
      refine li_ifb_eq (tgt := 32) hx hb dX6_wind_25 (by decide) (fun c_25 => ?_) (fun c_25 => ?_)
      · refine li_const hx hb dX6_wind_32 ?_
        refine lv_istore_n (lv' := [(3, .int (iI 0)), (0, .ref M0), (1, .int (iI x)), (2, .int (iI y))]) hx hb dX6_wind_33 rfl hl (by decide) rfl (fun ls hl => ?_)
        refine lv_aload_n hx hb dX6_wind_34 rfl (lv_at hl 1 rfl) ?_
        refine lv_aload_n hx hb dX6_wind_35 rfl (lv_at hl 1 rfl) ?_
        refine lv_iload_n hx hb dX6_wind_36 rfl (lv_at hl 2 rfl) ?_
        refine cl_i0 (isC := [0, 1, 2, 3, 4]) (isR := []) (isN := [0, 1, 2, 3, 4]) (wr := []) (wn := cMd cI n L a rn sp cnt th (rowF w op tn pl en kd nb) as ln dr M0 M1 M2 M3 M4) (As := [.int (iI x)]) (rest := [.ref M0]) (r := bz (0 ≤ x ∧ x ≤ n)) (ci := 6) (q0 := 0) ⟨hx, hb, hml, hown, hts⟩ (c_X6_isGate n L a rn sp cnt th w op tn pl en kd nb as ln dr M0 M1 M2 M3 M4 x (by first | assumption | omega) (by first | assumption | omega) (by first | assumption | omega) (by first | assumption | omega)) (cwV 1 hts gX6_wind_X6_isGate rfl rfl rfl (by decide +kernel) ⟨Nat.le_of_ble_eq_true rfl, Nat.le_of_ble_eq_true rfl⟩) hK hNW hP hD hS hA rfl rfl rfl rfl (by decide) rfl rfl rfl rfl rfl rfl hl.1 rfl (Nat.le_of_ble_eq_true rfl) dX6_wind_37 ⟨Nat.zero_le _, Nat.zero_le _⟩ (fun H locs hP hD hS => ?_)
        refine li_top (b := 1) (bz_t (by exact hv)) ?_
        refine lv_iload_n hx hb dX6_wind_40 rfl (lv_at hl 3 rfl) ?_
        refine li_const hx hb dX6_wind_41 ?_
        refine li_const hx hb dX6_wind_42 ?_
        refine cs_i0 (isC := []) (isR := [0, 1, 2, 3, 4]) (isN := [0, 1, 2, 3, 4]) (wr := cMd cI n L a rn sp cnt th (rowF w op tn pl en kd nb) as ln dr M0 M1 M2 M3 M4) (wn := cMd cI n L a rn sp cnt th (rowF w op tn pl en kd nb) as ln dr M0 M1 M2 M3 M4) (As := [.int (iI y), .int (iI 0), .int (iI 5)]) (rest := [.int (iI 1), .ref M0]) (r := bz (0 ≤ y ∧ y ≤ 5)) ⟨hx, hb, hml, hown, hts⟩ (c_X6_isWithin y 0 5 (by first | assumption | omega) (by first | assumption | omega) (by first | assumption | omega)) (va_cwS 3 hts gX6_wind_X6_isWithin rfl rfl rfl (by decide +kernel) ⟨Nat.le_of_ble_eq_true rfl, Nat.le_of_ble_eq_true rfl⟩) hK hNW hP hD hS hA rfl rfl rfl rfl (by decide) rfl rfl rfl hl.1 rfl (Nat.le_of_ble_eq_true rfl) dX6_wind_43 ⟨Nat.zero_le _, Nat.zero_le _⟩ (fun H locs hP hD hS => ?_)
        refine li_top (b := 0) (bz_f (by exact hy2)) ?_
        refine lv_iload_n hx hb dX6_wind_46 rfl (lv_at hl 3 rfl) ?_
        refine li_if_eq (tgt := 54) hx hb dX6_wind_47 (by decide) (ib_i (by omega) (by omega)) (fun c_47 => ?_) (fun c_47 => ?_)
        · refine li_const hx hb dX6_wind_54 ?_
          refine lv_goto (tgt := 59) hx hb dX6_wind_55 (by decide) ?_
          refine cl_i0 (isC := [0, 1, 2, 3, 4]) (isR := []) (isN := [0, 1, 2, 3, 4]) (wr := []) (wn := cMd cI n L a rn sp cnt (chA 1 0 1) (rowF w op tn pl en kd nb) as ln dr M0 M1 M2 M3 M4) (As := [.int (iI 1), .int (iI 0), .int (iI 1)]) (rest := []) (r := bz (chA 1 0 1 = 0)) (ci := 6) (q0 := 0) ⟨hx, hb, hml, hown, hts⟩ (c_X6_check n L a rn sp cnt th w op tn pl en kd nb as ln dr M0 M1 M2 M3 M4 1 0 1 (by first | decide | exact bz_01 _ | omega) (by first | decide | exact bz_01 _ | omega) (by first | decide | exact bz_01 _ | omega)) (cwV 3 hts gX6_wind_X6_check rfl rfl rfl (by decide +kernel) ⟨Nat.le_of_ble_eq_true rfl, Nat.le_of_ble_eq_true rfl⟩) hK hNW hP hD hS hA rfl rfl rfl rfl (by decide) rfl rfl rfl rfl rfl rfl hl.1 rfl (Nat.le_of_ble_eq_true rfl) dX6_wind_59 ⟨Nat.zero_le _, Nat.zero_le _⟩ (fun H locs hP hD hS => ?_)
          refine li_top (b := 0) rfl ?_
          refine li_if_ne_f (tgt := 67) hx hb dX6_wind_62 (by decide) (by decide) (by decide) ?_
          refine li_const hx hb dX6_wind_65 ?_
          exact li_iret () hx hb hr hlocks hK hP hD hS dX6_wind_66 hQ rfl (congrArg iI (rfl))
        · refine lv_iload_n hx hb dX6_wind_50 rfl (lv_at hl 0 rfl) ?_
          refine li_if_ne_f (tgt := 58) hx hb dX6_wind_51 (by decide) (by decide) (by decide) ?_
          refine li_const hx hb dX6_wind_54 ?_
          refine lv_goto (tgt := 59) hx hb dX6_wind_55 (by decide) ?_
          refine cl_i0 (isC := [0, 1, 2, 3, 4]) (isR := []) (isN := [0, 1, 2, 3, 4]) (wr := []) (wn := cMd cI n L a rn sp cnt (chA 1 0 1) (rowF w op tn pl en kd nb) as ln dr M0 M1 M2 M3 M4) (As := [.int (iI 1), .int (iI 0), .int (iI 1)]) (rest := []) (r := bz (chA 1 0 1 = 0)) (ci := 6) (q0 := 0) ⟨hx, hb, hml, hown, hts⟩ (c_X6_check n L a rn sp cnt th w op tn pl en kd nb as ln dr M0 M1 M2 M3 M4 1 0 1 (by first | decide | exact bz_01 _ | omega) (by first | decide | exact bz_01 _ | omega) (by first | decide | exact bz_01 _ | omega)) (cwV 3 hts gX6_wind_X6_check rfl rfl rfl (by decide +kernel) ⟨Nat.le_of_ble_eq_true rfl, Nat.le_of_ble_eq_true rfl⟩) hK hNW hP hD hS hA rfl rfl rfl rfl (by decide) rfl rfl rfl rfl rfl rfl hl.1 rfl (Nat.le_of_ble_eq_true rfl) dX6_wind_59 ⟨Nat.zero_le _, Nat.zero_le _⟩ (fun H locs hP hD hS => ?_)
          refine li_top (b := 0) rfl ?_
          refine li_if_ne_f (tgt := 67) hx hb dX6_wind_62 (by decide) (by decide) (by decide) ?_
          refine li_const hx hb dX6_wind_65 ?_
          exact li_iret () hx hb hr hlocks hK hP hD hS dX6_wind_66 hQ rfl (congrArg iI (rfl))
      · refine li_const hx hb dX6_wind_28 ?_
        refine lv_goto (tgt := 33) hx hb dX6_wind_29 (by decide) ?_
        refine lv_istore_n (lv' := [(3, .int (iI 1)), (0, .ref M0), (1, .int (iI x)), (2, .int (iI y))]) hx hb dX6_wind_33 rfl hl (by decide) rfl (fun ls hl => ?_)
        refine lv_aload_n hx hb dX6_wind_34 rfl (lv_at hl 1 rfl) ?_
        refine lv_aload_n hx hb dX6_wind_35 rfl (lv_at hl 1 rfl) ?_
        refine lv_iload_n hx hb dX6_wind_36 rfl (lv_at hl 2 rfl) ?_
        refine cl_i0 (isC := [0, 1, 2, 3, 4]) (isR := []) (isN := [0, 1, 2, 3, 4]) (wr := []) (wn := cMd cI n L a rn sp cnt th (rowF w op tn pl en kd nb) as ln dr M0 M1 M2 M3 M4) (As := [.int (iI x)]) (rest := [.ref M0]) (r := bz (0 ≤ x ∧ x ≤ n)) (ci := 6) (q0 := 0) ⟨hx, hb, hml, hown, hts⟩ (c_X6_isGate n L a rn sp cnt th w op tn pl en kd nb as ln dr M0 M1 M2 M3 M4 x (by first | assumption | omega) (by first | assumption | omega) (by first | assumption | omega) (by first | assumption | omega)) (cwV 1 hts gX6_wind_X6_isGate rfl rfl rfl (by decide +kernel) ⟨Nat.le_of_ble_eq_true rfl, Nat.le_of_ble_eq_true rfl⟩) hK hNW hP hD hS hA rfl rfl rfl rfl (by decide) rfl rfl rfl rfl rfl rfl hl.1 rfl (Nat.le_of_ble_eq_true rfl) dX6_wind_37 ⟨Nat.zero_le _, Nat.zero_le _⟩ (fun H locs hP hD hS => ?_)
        refine li_top (b := 1) (bz_t (by exact hv)) ?_
        refine lv_iload_n hx hb dX6_wind_40 rfl (lv_at hl 3 rfl) ?_
        refine li_const hx hb dX6_wind_41 ?_
        refine li_const hx hb dX6_wind_42 ?_
        refine cs_i0 (isC := []) (isR := [0, 1, 2, 3, 4]) (isN := [0, 1, 2, 3, 4]) (wr := cMd cI n L a rn sp cnt th (rowF w op tn pl en kd nb) as ln dr M0 M1 M2 M3 M4) (wn := cMd cI n L a rn sp cnt th (rowF w op tn pl en kd nb) as ln dr M0 M1 M2 M3 M4) (As := [.int (iI y), .int (iI 0), .int (iI 5)]) (rest := [.int (iI 1), .ref M0]) (r := bz (0 ≤ y ∧ y ≤ 5)) ⟨hx, hb, hml, hown, hts⟩ (c_X6_isWithin y 0 5 (by first | assumption | omega) (by first | assumption | omega) (by first | assumption | omega)) (va_cwS 3 hts gX6_wind_X6_isWithin rfl rfl rfl (by decide +kernel) ⟨Nat.le_of_ble_eq_true rfl, Nat.le_of_ble_eq_true rfl⟩) hK hNW hP hD hS hA rfl rfl rfl rfl (by decide) rfl rfl rfl hl.1 rfl (Nat.le_of_ble_eq_true rfl) dX6_wind_43 ⟨Nat.zero_le _, Nat.zero_le _⟩ (fun H locs hP hD hS => ?_)
        refine li_top (b := 0) (bz_f (by exact hy2)) ?_
        refine lv_iload_n hx hb dX6_wind_46 rfl (lv_at hl 3 rfl) ?_
        refine li_if_eq (tgt := 54) hx hb dX6_wind_47 (by decide) (ib_i (by omega) (by omega)) (fun c_47 => ?_) (fun c_47 => ?_)
        · refine li_const hx hb dX6_wind_54 ?_
          refine lv_goto (tgt := 59) hx hb dX6_wind_55 (by decide) ?_
          refine cl_i0 (isC := [0, 1, 2, 3, 4]) (isR := []) (isN := [0, 1, 2, 3, 4]) (wr := []) (wn := cMd cI n L a rn sp cnt (chA 1 0 1) (rowF w op tn pl en kd nb) as ln dr M0 M1 M2 M3 M4) (As := [.int (iI 1), .int (iI 0), .int (iI 1)]) (rest := []) (r := bz (chA 1 0 1 = 0)) (ci := 6) (q0 := 0) ⟨hx, hb, hml, hown, hts⟩ (c_X6_check n L a rn sp cnt th w op tn pl en kd nb as ln dr M0 M1 M2 M3 M4 1 0 1 (by first | decide | exact bz_01 _ | omega) (by first | decide | exact bz_01 _ | omega) (by first | decide | exact bz_01 _ | omega)) (cwV 3 hts gX6_wind_X6_check rfl rfl rfl (by decide +kernel) ⟨Nat.le_of_ble_eq_true rfl, Nat.le_of_ble_eq_true rfl⟩) hK hNW hP hD hS hA rfl rfl rfl rfl (by decide) rfl rfl rfl rfl rfl rfl hl.1 rfl (Nat.le_of_ble_eq_true rfl) dX6_wind_59 ⟨Nat.zero_le _, Nat.zero_le _⟩ (fun H locs hP hD hS => ?_)
          refine li_top (b := 0) rfl ?_
          refine li_if_ne_f (tgt := 67) hx hb dX6_wind_62 (by decide) (by decide) (by decide) ?_
          refine li_const hx hb dX6_wind_65 ?_
          exact li_iret () hx hb hr hlocks hK hP hD hS dX6_wind_66 hQ rfl (congrArg iI (rfl))
        · refine lv_iload_n hx hb dX6_wind_50 rfl (lv_at hl 0 rfl) ?_
          refine li_if_ne_t (tgt := 58) hx hb dX6_wind_51 (by decide) (by decide) (by decide) ?_
          refine li_const hx hb dX6_wind_58 ?_
          refine cl_i0 (isC := [0, 1, 2, 3, 4]) (isR := []) (isN := [0, 1, 2, 3, 4]) (wr := []) (wn := cMd cI n L a rn sp cnt (chA 1 0 0) (rowF w op tn pl en kd nb) as ln dr M0 M1 M2 M3 M4) (As := [.int (iI 1), .int (iI 0), .int (iI 0)]) (rest := []) (r := bz (chA 1 0 0 = 0)) (ci := 6) (q0 := 0) ⟨hx, hb, hml, hown, hts⟩ (c_X6_check n L a rn sp cnt th w op tn pl en kd nb as ln dr M0 M1 M2 M3 M4 1 0 0 (by first | decide | exact bz_01 _ | omega) (by first | decide | exact bz_01 _ | omega) (by first | decide | exact bz_01 _ | omega)) (cwV 3 hts gX6_wind_X6_check rfl rfl rfl (by decide +kernel) ⟨Nat.le_of_ble_eq_true rfl, Nat.le_of_ble_eq_true rfl⟩) hK hNW hP hD hS hA rfl rfl rfl rfl (by decide) rfl rfl rfl rfl rfl rfl hl.1 rfl (Nat.le_of_ble_eq_true rfl) dX6_wind_59 ⟨Nat.zero_le _, Nat.zero_le _⟩ (fun H locs hP hD hS => ?_)
          refine li_top (b := 0) rfl ?_
          refine li_if_ne_f (tgt := 67) hx hb dX6_wind_62 (by decide) (by decide) (by decide) ?_
          refine li_const hx hb dX6_wind_65 ?_
          exact li_iret () hx hb hr hlocks hK hP hD hS dX6_wind_66 hQ rfl (congrArg iI (rfl))

set_option maxRecDepth 100000 in
set_option maxHeartbeats 4000000 in
theorem c_X6_wind_no3 {l : Launch} {D : va_G} {cI cZ cJ : ClassId} (n : Int) (L : Int) (a : Int) (rn : Int) (sp : Int) (cnt : Int) (th : Int) (w : Wt) (op : Int → Int) (tn : Int → Int) (pl : Int → Int) (en : Int) (kd : Int → Int) (nb : Int → Int) (as : Int → Int) (ln : Int → Int) (dr : Int → Int) (M0 M1 M2 M3 M4 : Nat) (x : Int) (y : Int) (hn : 1 ≤ n ∧ n ≤ 6) (hL : 5 ≤ L ∧ L ≤ 40) (ha : 1 ≤ a ∧ a ≤ 50) (hop : opB op) (hoz : ∀ g, n < g → op g = 0) (htn : tnB tn) (i_x : -2147483648 ≤ x ∧ x < 2147483648) (i_y : -2147483648 ≤ y ∧ y < 2147483648) (hv : 0 ≤ x ∧ x ≤ n) (hy2 : 0 ≤ y ∧ y ≤ 5) (hb9 : y ≠ 0 ∧ beO op x = true) : Di l yX6_wind wsX6_wind 25 [.ref M0, .int (iI x), .int (iI y)] D (ty3 cI cZ cJ) (cMd cI n L a rn sp cnt th (rowF w op tn pl en kd nb) as ln dr M0 M1 M2 M3 M4) (0) (cMd cI n L a rn sp cnt 3 (rowF w op tn pl en kd nb) as ln dr M0 M1 M2 M3 M4) := by
  refine ct_i (plainFor_of_name (by decide)) rfl (Nat.le_of_ble_eq_true rfl) ?_
  intro p e s mI args below meth c_0 ls A hx hb hr hml hts hown hlocks hin hA hP hK hD hNW hS hl Q hQ
  have hown : s.vm.findClass RX6 = some mI.cls := hown
  have hl : lv_has ls 5 [(0, .ref M0), (1, .int (iI x)), (2, .int (iI y))] := hl
  have hin_X6 : ∀ w ∈ wsX60, w ∈ wsX6_wind := by decide +kernel
  have hf_9 := hts (.fieldLink RX6 9 "LockStaircaseModel" "row" "[I") (by decide +kernel)
  refine lv_aload_n hx hb dX6_wind_0 rfl (lv_at hl 0 rfl) ?_
  refine lv_iload_n hx hb dX6_wind_1 rfl (lv_at hl 1 rfl) ?_
  refine cl_i0 (isC := [0, 1, 2, 3, 4]) (isR := []) (isN := [0, 1, 2, 3, 4]) (wr := []) (wn := cMd cI n L a rn sp cnt th (rowF w op tn pl en kd nb) as ln dr M0 M1 M2 M3 M4) (As := [.int (iI x)]) (rest := []) (r := bz (isO op x = true)) (ci := 6) (q0 := 0) ⟨hx, hb, hml, hown, hts⟩ (c_X6_isOpenGate n L a rn sp cnt th w op tn pl en kd nb as ln dr M0 M1 M2 M3 M4 x (by first | assumption | omega) (by first | assumption | omega) (by first | assumption | omega) (by first | assumption | omega) (by first | assumption | omega) (by first | assumption | omega)) (cwV 1 hts gX6_wind_X6_isOpenGate rfl rfl rfl (by decide +kernel) ⟨Nat.le_of_ble_eq_true rfl, Nat.le_of_ble_eq_true rfl⟩) hK hNW hP hD hS hA rfl rfl rfl rfl (by decide) rfl rfl rfl rfl rfl rfl hl.1 rfl (Nat.le_of_ble_eq_true rfl) dX6_wind_2 ⟨Nat.zero_le _, Nat.zero_le _⟩ (fun H locs hP hD hS => ?_)
  refine li_ifb_ne (tgt := 28) hx hb dX6_wind_5 (by decide) (fun c_5 => ?_) (fun c_5 => ?_)
  · refine li_const hx hb dX6_wind_28 ?_
    refine lv_goto (tgt := 33) hx hb dX6_wind_29 (by decide) ?_
    refine lv_istore_n (lv' := [(3, .int (iI 1)), (0, .ref M0), (1, .int (iI x)), (2, .int (iI y))]) hx hb dX6_wind_33 rfl hl (by decide) rfl (fun ls hl => ?_)
    refine lv_aload_n hx hb dX6_wind_34 rfl (lv_at hl 1 rfl) ?_
    refine lv_aload_n hx hb dX6_wind_35 rfl (lv_at hl 1 rfl) ?_
    refine lv_iload_n hx hb dX6_wind_36 rfl (lv_at hl 2 rfl) ?_
    refine cl_i0 (isC := [0, 1, 2, 3, 4]) (isR := []) (isN := [0, 1, 2, 3, 4]) (wr := []) (wn := cMd cI n L a rn sp cnt th (rowF w op tn pl en kd nb) as ln dr M0 M1 M2 M3 M4) (As := [.int (iI x)]) (rest := [.ref M0]) (r := bz (0 ≤ x ∧ x ≤ n)) (ci := 6) (q0 := 0) ⟨hx, hb, hml, hown, hts⟩ (c_X6_isGate n L a rn sp cnt th w op tn pl en kd nb as ln dr M0 M1 M2 M3 M4 x (by first | assumption | omega) (by first | assumption | omega) (by first | assumption | omega) (by first | assumption | omega)) (cwV 1 hts gX6_wind_X6_isGate rfl rfl rfl (by decide +kernel) ⟨Nat.le_of_ble_eq_true rfl, Nat.le_of_ble_eq_true rfl⟩) hK hNW hP hD hS hA rfl rfl rfl rfl (by decide) rfl rfl rfl rfl rfl rfl hl.1 rfl (Nat.le_of_ble_eq_true rfl) dX6_wind_37 ⟨Nat.zero_le _, Nat.zero_le _⟩ (fun H locs hP hD hS => ?_)
    refine li_top (b := 1) (bz_t (by exact hv)) ?_
    refine lv_iload_n hx hb dX6_wind_40 rfl (lv_at hl 3 rfl) ?_
    refine li_const hx hb dX6_wind_41 ?_
    refine li_const hx hb dX6_wind_42 ?_
    refine cs_i0 (isC := []) (isR := [0, 1, 2, 3, 4]) (isN := [0, 1, 2, 3, 4]) (wr := cMd cI n L a rn sp cnt th (rowF w op tn pl en kd nb) as ln dr M0 M1 M2 M3 M4) (wn := cMd cI n L a rn sp cnt th (rowF w op tn pl en kd nb) as ln dr M0 M1 M2 M3 M4) (As := [.int (iI y), .int (iI 0), .int (iI 5)]) (rest := [.int (iI 1), .ref M0]) (r := bz (0 ≤ y ∧ y ≤ 5)) ⟨hx, hb, hml, hown, hts⟩ (c_X6_isWithin y 0 5 (by first | assumption | omega) (by first | assumption | omega) (by first | assumption | omega)) (va_cwS 3 hts gX6_wind_X6_isWithin rfl rfl rfl (by decide +kernel) ⟨Nat.le_of_ble_eq_true rfl, Nat.le_of_ble_eq_true rfl⟩) hK hNW hP hD hS hA rfl rfl rfl rfl (by decide) rfl rfl rfl hl.1 rfl (Nat.le_of_ble_eq_true rfl) dX6_wind_43 ⟨Nat.zero_le _, Nat.zero_le _⟩ (fun H locs hP hD hS => ?_)
    refine li_top (b := 1) (bz_t (by exact hy2)) ?_
    refine lv_iload_n hx hb dX6_wind_46 rfl (lv_at hl 3 rfl) ?_
    refine li_if_eq (tgt := 54) hx hb dX6_wind_47 (by decide) (ib_i (by omega) (by omega)) (fun c_47 => ?_) (fun c_47 => ?_)
    · refine li_const hx hb dX6_wind_54 ?_
      refine lv_goto (tgt := 59) hx hb dX6_wind_55 (by decide) ?_
      refine cl_i0 (isC := [0, 1, 2, 3, 4]) (isR := []) (isN := [0, 1, 2, 3, 4]) (wr := []) (wn := cMd cI n L a rn sp cnt (chA 1 1 1) (rowF w op tn pl en kd nb) as ln dr M0 M1 M2 M3 M4) (As := [.int (iI 1), .int (iI 1), .int (iI 1)]) (rest := []) (r := bz (chA 1 1 1 = 0)) (ci := 6) (q0 := 0) ⟨hx, hb, hml, hown, hts⟩ (c_X6_check n L a rn sp cnt th w op tn pl en kd nb as ln dr M0 M1 M2 M3 M4 1 1 1 (by first | decide | exact bz_01 _ | omega) (by first | decide | exact bz_01 _ | omega) (by first | decide | exact bz_01 _ | omega)) (cwV 3 hts gX6_wind_X6_check rfl rfl rfl (by decide +kernel) ⟨Nat.le_of_ble_eq_true rfl, Nat.le_of_ble_eq_true rfl⟩) hK hNW hP hD hS hA rfl rfl rfl rfl (by decide) rfl rfl rfl rfl rfl rfl hl.1 rfl (Nat.le_of_ble_eq_true rfl) dX6_wind_59 ⟨Nat.zero_le _, Nat.zero_le _⟩ (fun H locs hP hD hS => ?_)
      refine li_top (b := 1) rfl ?_
      refine li_if_ne_t (tgt := 67) hx hb dX6_wind_62 (by decide) (by decide) (by decide) ?_
      refine lv_aload_n hx hb dX6_wind_67 rfl (lv_at hl 1 rfl) ?_
      refine li_get (ci := 6) (v := .ref M1) (C := RX6) (T := TX6) (N := 11) (q0 := 0) (k := 5) hx hb hts hin_X6 hown hK hP rfl rfl (by decide) hf_9 rfl rfl dX6_wind_68 ?_
      refine li_bipush hx hb dX6_wind_71 (by decide) ?_
      refine lv_iload_n hx hb dX6_wind_73 rfl (lv_at hl 2 rfl) ?_
      refine li_add hx hb dX6_wind_74 ?_
      refine li_iald (q0 := 1) (t0 := 0) (g := (rowF w op tn pl en kd nb)) hx hb hK hP rfl rfl (by omega) (by omega) (ib_i (by omega) (by omega)) dX6_wind_75 ?_
      refine li_top (b := tn x) (rd_t (c := x) (by omega) (by omega) (by omega)) ?_
      refine lv_istore (lv' := [(4, .int (iI (tn x))), (3, .int (iI 1)), (0, .ref M0), (1, .int (iI x)), (2, .int (iI y))]) hx hb dX6_wind_76 hl (by decide) rfl (fun ls hl => ?_)
      refine lv_aload_n hx hb dX6_wind_78 rfl (lv_at hl 2 rfl) ?_
      refine li_get (ci := 6) (v := .ref M1) (C := RX6) (T := TX6) (N := 11) (q0 := 0) (k := 5) hx hb hts hin_X6 hown hK hP rfl rfl (by decide) hf_9 rfl rfl dX6_wind_79 ?_
      refine li_bipush hx hb dX6_wind_82 (by decide) ?_
      refine lv_iload_n hx hb dX6_wind_84 rfl (lv_at hl 3 rfl) ?_
      refine li_add hx hb dX6_wind_85 ?_
      refine lv_iload_n hx hb dX6_wind_86 rfl (lv_at hl 4 rfl) ?_
      refine li_iast (q0 := 1) (t0 := 0) (g := (rowF w op tn pl en kd nb)) (w2 := cMd cI n L a rn sp cnt 0 (rowF w op (upZ tn x y) pl en kd nb) as ln dr M0 M1 M2 M3 M4) hx hb hK hP hD hS rfl rfl (by omega) (by omega) (ib_i (by omega) (by omega)) dX6_wind_87 (by rw [wr_t (c := x) (by omega) (by omega) (by omega)] <;> rfl) (fun H locs hP hD hS => ?_)
      refine lv_iload hx hb dX6_wind_88 (lv_at hl 0 rfl) ?_
      exact li_iret () hx hb hr hlocks hK hP hD hS dX6_wind_90 hQ (by exfalso; first | exact absurd (by assumption) hb9.1 | exact absurd hb9.2 (by unfold beO; simp only [Bool.or_eq_true]; intro h; rcases h with (h | h) | h <;> contradiction)) (congrArg iI (by exfalso; first | exact absurd (by assumption) hb9.1 | exact absurd hb9.2 (by unfold beO; simp only [Bool.or_eq_true]; intro h; rcases h with (h | h) | h <;> contradiction)))
    · refine lv_iload_n hx hb dX6_wind_50 rfl (lv_at hl 0 rfl) ?_
      refine li_if_ne_t (tgt := 58) hx hb dX6_wind_51 (by decide) (by decide) (by decide) ?_
      refine li_const hx hb dX6_wind_58 ?_
      refine cl_i0 (isC := [0, 1, 2, 3, 4]) (isR := []) (isN := [0, 1, 2, 3, 4]) (wr := []) (wn := cMd cI n L a rn sp cnt (chA 1 1 0) (rowF w op tn pl en kd nb) as ln dr M0 M1 M2 M3 M4) (As := [.int (iI 1), .int (iI 1), .int (iI 0)]) (rest := []) (r := bz (chA 1 1 0 = 0)) (ci := 6) (q0 := 0) ⟨hx, hb, hml, hown, hts⟩ (c_X6_check n L a rn sp cnt th w op tn pl en kd nb as ln dr M0 M1 M2 M3 M4 1 1 0 (by first | decide | exact bz_01 _ | omega) (by first | decide | exact bz_01 _ | omega) (by first | decide | exact bz_01 _ | omega)) (cwV 3 hts gX6_wind_X6_check rfl rfl rfl (by decide +kernel) ⟨Nat.le_of_ble_eq_true rfl, Nat.le_of_ble_eq_true rfl⟩) hK hNW hP hD hS hA rfl rfl rfl rfl (by decide) rfl rfl rfl rfl rfl rfl hl.1 rfl (Nat.le_of_ble_eq_true rfl) dX6_wind_59 ⟨Nat.zero_le _, Nat.zero_le _⟩ (fun H locs hP hD hS => ?_)
      refine li_top (b := 0) rfl ?_
      refine li_if_ne_f (tgt := 67) hx hb dX6_wind_62 (by decide) (by decide) (by decide) ?_
      refine li_const hx hb dX6_wind_65 ?_
      exact li_iret () hx hb hr hlocks hK hP hD hS dX6_wind_66 hQ rfl (congrArg iI (rfl))
  · refine lv_aload_n hx hb dX6_wind_8 rfl (lv_at hl 0 rfl) ?_
    refine lv_iload_n hx hb dX6_wind_9 rfl (lv_at hl 1 rfl) ?_
    refine li_const hx hb dX6_wind_10 ?_
    refine li_sub hx hb dX6_wind_11 ?_
    refine cl_i0 (isC := [0, 1, 2, 3, 4]) (isR := []) (isN := [0, 1, 2, 3, 4]) (wr := []) (wn := cMd cI n L a rn sp cnt th (rowF w op tn pl en kd nb) as ln dr M0 M1 M2 M3 M4) (As := [.int (iI (x - 1))]) (rest := []) (r := bz (isO op (x - 1) = true)) (ci := 6) (q0 := 0) ⟨hx, hb, hml, hown, hts⟩ (c_X6_isOpenGate n L a rn sp cnt th w op tn pl en kd nb as ln dr M0 M1 M2 M3 M4 (x - 1) (by first | assumption | omega) (by first | assumption | omega) (by first | assumption | omega) (by first | assumption | omega) (by first | assumption | omega) (by first | assumption | omega)) (cwV 1 hts gX6_wind_X6_isOpenGate rfl rfl rfl (by decide +kernel) ⟨Nat.le_of_ble_eq_true rfl, Nat.le_of_ble_eq_true rfl⟩) hK hNW hP hD hS hA rfl rfl rfl rfl (by decide) rfl rfl rfl rfl rfl rfl hl.1 rfl (Nat.le_of_ble_eq_true rfl) dX6_wind_12 ⟨Nat.zero_le _, Nat.zero_le _⟩ (fun H locs hP hD hS => ?_)
    refine li_ifb_ne (tgt := 28) hx hb dX6_wind_15 (by decide) (fun c_15 => ?_) (fun c_15 => ?_)
    · refine li_const hx hb dX6_wind_28 ?_
      refine lv_goto (tgt := 33) hx hb dX6_wind_29 (by decide) ?_
      refine lv_istore_n (lv' := [(3, .int (iI 1)), (0, .ref M0), (1, .int (iI x)), (2, .int (iI y))]) hx hb dX6_wind_33 rfl hl (by decide) rfl (fun ls hl => ?_)
      refine lv_aload_n hx hb dX6_wind_34 rfl (lv_at hl 1 rfl) ?_
      refine lv_aload_n hx hb dX6_wind_35 rfl (lv_at hl 1 rfl) ?_
      refine lv_iload_n hx hb dX6_wind_36 rfl (lv_at hl 2 rfl) ?_
      refine cl_i0 (isC := [0, 1, 2, 3, 4]) (isR := []) (isN := [0, 1, 2, 3, 4]) (wr := []) (wn := cMd cI n L a rn sp cnt th (rowF w op tn pl en kd nb) as ln dr M0 M1 M2 M3 M4) (As := [.int (iI x)]) (rest := [.ref M0]) (r := bz (0 ≤ x ∧ x ≤ n)) (ci := 6) (q0 := 0) ⟨hx, hb, hml, hown, hts⟩ (c_X6_isGate n L a rn sp cnt th w op tn pl en kd nb as ln dr M0 M1 M2 M3 M4 x (by first | assumption | omega) (by first | assumption | omega) (by first | assumption | omega) (by first | assumption | omega)) (cwV 1 hts gX6_wind_X6_isGate rfl rfl rfl (by decide +kernel) ⟨Nat.le_of_ble_eq_true rfl, Nat.le_of_ble_eq_true rfl⟩) hK hNW hP hD hS hA rfl rfl rfl rfl (by decide) rfl rfl rfl rfl rfl rfl hl.1 rfl (Nat.le_of_ble_eq_true rfl) dX6_wind_37 ⟨Nat.zero_le _, Nat.zero_le _⟩ (fun H locs hP hD hS => ?_)
      refine li_top (b := 1) (bz_t (by exact hv)) ?_
      refine lv_iload_n hx hb dX6_wind_40 rfl (lv_at hl 3 rfl) ?_
      refine li_const hx hb dX6_wind_41 ?_
      refine li_const hx hb dX6_wind_42 ?_
      refine cs_i0 (isC := []) (isR := [0, 1, 2, 3, 4]) (isN := [0, 1, 2, 3, 4]) (wr := cMd cI n L a rn sp cnt th (rowF w op tn pl en kd nb) as ln dr M0 M1 M2 M3 M4) (wn := cMd cI n L a rn sp cnt th (rowF w op tn pl en kd nb) as ln dr M0 M1 M2 M3 M4) (As := [.int (iI y), .int (iI 0), .int (iI 5)]) (rest := [.int (iI 1), .ref M0]) (r := bz (0 ≤ y ∧ y ≤ 5)) ⟨hx, hb, hml, hown, hts⟩ (c_X6_isWithin y 0 5 (by first | assumption | omega) (by first | assumption | omega) (by first | assumption | omega)) (va_cwS 3 hts gX6_wind_X6_isWithin rfl rfl rfl (by decide +kernel) ⟨Nat.le_of_ble_eq_true rfl, Nat.le_of_ble_eq_true rfl⟩) hK hNW hP hD hS hA rfl rfl rfl rfl (by decide) rfl rfl rfl hl.1 rfl (Nat.le_of_ble_eq_true rfl) dX6_wind_43 ⟨Nat.zero_le _, Nat.zero_le _⟩ (fun H locs hP hD hS => ?_)
      refine li_top (b := 1) (bz_t (by exact hy2)) ?_
      refine lv_iload_n hx hb dX6_wind_46 rfl (lv_at hl 3 rfl) ?_
      refine li_if_eq (tgt := 54) hx hb dX6_wind_47 (by decide) (ib_i (by omega) (by omega)) (fun c_47 => ?_) (fun c_47 => ?_)
      · refine li_const hx hb dX6_wind_54 ?_
        refine lv_goto (tgt := 59) hx hb dX6_wind_55 (by decide) ?_
        refine cl_i0 (isC := [0, 1, 2, 3, 4]) (isR := []) (isN := [0, 1, 2, 3, 4]) (wr := []) (wn := cMd cI n L a rn sp cnt (chA 1 1 1) (rowF w op tn pl en kd nb) as ln dr M0 M1 M2 M3 M4) (As := [.int (iI 1), .int (iI 1), .int (iI 1)]) (rest := []) (r := bz (chA 1 1 1 = 0)) (ci := 6) (q0 := 0) ⟨hx, hb, hml, hown, hts⟩ (c_X6_check n L a rn sp cnt th w op tn pl en kd nb as ln dr M0 M1 M2 M3 M4 1 1 1 (by first | decide | exact bz_01 _ | omega) (by first | decide | exact bz_01 _ | omega) (by first | decide | exact bz_01 _ | omega)) (cwV 3 hts gX6_wind_X6_check rfl rfl rfl (by decide +kernel) ⟨Nat.le_of_ble_eq_true rfl, Nat.le_of_ble_eq_true rfl⟩) hK hNW hP hD hS hA rfl rfl rfl rfl (by decide) rfl rfl rfl rfl rfl rfl hl.1 rfl (Nat.le_of_ble_eq_true rfl) dX6_wind_59 ⟨Nat.zero_le _, Nat.zero_le _⟩ (fun H locs hP hD hS => ?_)
        refine li_top (b := 1) rfl ?_
        refine li_if_ne_t (tgt := 67) hx hb dX6_wind_62 (by decide) (by decide) (by decide) ?_
        refine lv_aload_n hx hb dX6_wind_67 rfl (lv_at hl 1 rfl) ?_
        refine li_get (ci := 6) (v := .ref M1) (C := RX6) (T := TX6) (N := 11) (q0 := 0) (k := 5) hx hb hts hin_X6 hown hK hP rfl rfl (by decide) hf_9 rfl rfl dX6_wind_68 ?_
        refine li_bipush hx hb dX6_wind_71 (by decide) ?_
        refine lv_iload_n hx hb dX6_wind_73 rfl (lv_at hl 2 rfl) ?_
        refine li_add hx hb dX6_wind_74 ?_
        refine li_iald (q0 := 1) (t0 := 0) (g := (rowF w op tn pl en kd nb)) hx hb hK hP rfl rfl (by omega) (by omega) (ib_i (by omega) (by omega)) dX6_wind_75 ?_
        refine li_top (b := tn x) (rd_t (c := x) (by omega) (by omega) (by omega)) ?_
        refine lv_istore (lv' := [(4, .int (iI (tn x))), (3, .int (iI 1)), (0, .ref M0), (1, .int (iI x)), (2, .int (iI y))]) hx hb dX6_wind_76 hl (by decide) rfl (fun ls hl => ?_)
        refine lv_aload_n hx hb dX6_wind_78 rfl (lv_at hl 2 rfl) ?_
        refine li_get (ci := 6) (v := .ref M1) (C := RX6) (T := TX6) (N := 11) (q0 := 0) (k := 5) hx hb hts hin_X6 hown hK hP rfl rfl (by decide) hf_9 rfl rfl dX6_wind_79 ?_
        refine li_bipush hx hb dX6_wind_82 (by decide) ?_
        refine lv_iload_n hx hb dX6_wind_84 rfl (lv_at hl 3 rfl) ?_
        refine li_add hx hb dX6_wind_85 ?_
        refine lv_iload_n hx hb dX6_wind_86 rfl (lv_at hl 4 rfl) ?_
        refine li_iast (q0 := 1) (t0 := 0) (g := (rowF w op tn pl en kd nb)) (w2 := cMd cI n L a rn sp cnt 0 (rowF w op (upZ tn x y) pl en kd nb) as ln dr M0 M1 M2 M3 M4) hx hb hK hP hD hS rfl rfl (by omega) (by omega) (ib_i (by omega) (by omega)) dX6_wind_87 (by rw [wr_t (c := x) (by omega) (by omega) (by omega)] <;> rfl) (fun H locs hP hD hS => ?_)
        refine lv_iload hx hb dX6_wind_88 (lv_at hl 0 rfl) ?_
        exact li_iret () hx hb hr hlocks hK hP hD hS dX6_wind_90 hQ (by exfalso; first | exact absurd (by assumption) hb9.1 | exact absurd hb9.2 (by unfold beO; simp only [Bool.or_eq_true]; intro h; rcases h with (h | h) | h <;> contradiction)) (congrArg iI (by exfalso; first | exact absurd (by assumption) hb9.1 | exact absurd hb9.2 (by unfold beO; simp only [Bool.or_eq_true]; intro h; rcases h with (h | h) | h <;> contradiction)))
      · refine lv_iload_n hx hb dX6_wind_50 rfl (lv_at hl 0 rfl) ?_
        refine li_if_ne_t (tgt := 58) hx hb dX6_wind_51 (by decide) (by decide) (by decide) ?_
        refine li_const hx hb dX6_wind_58 ?_
        refine cl_i0 (isC := [0, 1, 2, 3, 4]) (isR := []) (isN := [0, 1, 2, 3, 4]) (wr := []) (wn := cMd cI n L a rn sp cnt (chA 1 1 0) (rowF w op tn pl en kd nb) as ln dr M0 M1 M2 M3 M4) (As := [.int (iI 1), .int (iI 1), .int (iI 0)]) (rest := []) (r := bz (chA 1 1 0 = 0)) (ci := 6) (q0 := 0) ⟨hx, hb, hml, hown, hts⟩ (c_X6_check n L a rn sp cnt th w op tn pl en kd nb as ln dr M0 M1 M2 M3 M4 1 1 0 (by first | decide | exact bz_01 _ | omega) (by first | decide | exact bz_01 _ | omega) (by first | decide | exact bz_01 _ | omega)) (cwV 3 hts gX6_wind_X6_check rfl rfl rfl (by decide +kernel) ⟨Nat.le_of_ble_eq_true rfl, Nat.le_of_ble_eq_true rfl⟩) hK hNW hP hD hS hA rfl rfl rfl rfl (by decide) rfl rfl rfl rfl rfl rfl hl.1 rfl (Nat.le_of_ble_eq_true rfl) dX6_wind_59 ⟨Nat.zero_le _, Nat.zero_le _⟩ (fun H locs hP hD hS => ?_)
        refine li_top (b := 0) rfl ?_
        refine li_if_ne_f (tgt := 67) hx hb dX6_wind_62 (by decide) (by decide) (by decide) ?_
        refine li_const hx hb dX6_wind_65 ?_
        exact li_iret () hx hb hr hlocks hK hP hD hS dX6_wind_66 hQ rfl (congrArg iI (rfl))
    · refine lv_aload_n hx hb dX6_wind_18 rfl (lv_at hl 0 rfl) ?_
      refine lv_iload_n hx hb dX6_wind_19 rfl (lv_at hl 1 rfl) ?_
      refine li_const hx hb dX6_wind_20 ?_
      refine li_add hx hb dX6_wind_21 ?_
      refine cl_i0 (isC := [0, 1, 2, 3, 4]) (isR := []) (isN := [0, 1, 2, 3, 4]) (wr := []) (wn := cMd cI n L a rn sp cnt th (rowF w op tn pl en kd nb) as ln dr M0 M1 M2 M3 M4) (As := [.int (iI (x + 1))]) (rest := []) (r := bz (isO op (x + 1) = true)) (ci := 6) (q0 := 0) ⟨hx, hb, hml, hown, hts⟩ (c_X6_isOpenGate n L a rn sp cnt th w op tn pl en kd nb as ln dr M0 M1 M2 M3 M4 (x + 1) (by first | assumption | omega) (by first | assumption | omega) (by first | assumption | omega) (by first | assumption | omega) (by first | assumption | omega) (by first | assumption | omega)) (cwV 1 hts gX6_wind_X6_isOpenGate rfl rfl rfl (by decide +kernel) ⟨Nat.le_of_ble_eq_true rfl, Nat.le_of_ble_eq_true rfl⟩) hK hNW hP hD hS hA rfl rfl rfl rfl (by decide) rfl rfl rfl rfl rfl rfl hl.1 rfl (Nat.le_of_ble_eq_true rfl) dX6_wind_22 ⟨Nat.zero_le _, Nat.zero_le _⟩ (fun H locs hP hD hS => ?_)
      refine li_ifb_eq (tgt := 32) hx hb dX6_wind_25 (by decide) (fun c_25 => ?_) (fun c_25 => ?_)
      · refine li_const hx hb dX6_wind_32 ?_
        refine lv_istore_n (lv' := [(3, .int (iI 0)), (0, .ref M0), (1, .int (iI x)), (2, .int (iI y))]) hx hb dX6_wind_33 rfl hl (by decide) rfl (fun ls hl => ?_)
        refine lv_aload_n hx hb dX6_wind_34 rfl (lv_at hl 1 rfl) ?_
        refine lv_aload_n hx hb dX6_wind_35 rfl (lv_at hl 1 rfl) ?_
        refine lv_iload_n hx hb dX6_wind_36 rfl (lv_at hl 2 rfl) ?_
        refine cl_i0 (isC := [0, 1, 2, 3, 4]) (isR := []) (isN := [0, 1, 2, 3, 4]) (wr := []) (wn := cMd cI n L a rn sp cnt th (rowF w op tn pl en kd nb) as ln dr M0 M1 M2 M3 M4) (As := [.int (iI x)]) (rest := [.ref M0]) (r := bz (0 ≤ x ∧ x ≤ n)) (ci := 6) (q0 := 0) ⟨hx, hb, hml, hown, hts⟩ (c_X6_isGate n L a rn sp cnt th w op tn pl en kd nb as ln dr M0 M1 M2 M3 M4 x (by first | assumption | omega) (by first | assumption | omega) (by first | assumption | omega) (by first | assumption | omega)) (cwV 1 hts gX6_wind_X6_isGate rfl rfl rfl (by decide +kernel) ⟨Nat.le_of_ble_eq_true rfl, Nat.le_of_ble_eq_true rfl⟩) hK hNW hP hD hS hA rfl rfl rfl rfl (by decide) rfl rfl rfl rfl rfl rfl hl.1 rfl (Nat.le_of_ble_eq_true rfl) dX6_wind_37 ⟨Nat.zero_le _, Nat.zero_le _⟩ (fun H locs hP hD hS => ?_)
        refine li_top (b := 1) (bz_t (by exact hv)) ?_
        refine lv_iload_n hx hb dX6_wind_40 rfl (lv_at hl 3 rfl) ?_
        refine li_const hx hb dX6_wind_41 ?_
        refine li_const hx hb dX6_wind_42 ?_
        refine cs_i0 (isC := []) (isR := [0, 1, 2, 3, 4]) (isN := [0, 1, 2, 3, 4]) (wr := cMd cI n L a rn sp cnt th (rowF w op tn pl en kd nb) as ln dr M0 M1 M2 M3 M4) (wn := cMd cI n L a rn sp cnt th (rowF w op tn pl en kd nb) as ln dr M0 M1 M2 M3 M4) (As := [.int (iI y), .int (iI 0), .int (iI 5)]) (rest := [.int (iI 1), .ref M0]) (r := bz (0 ≤ y ∧ y ≤ 5)) ⟨hx, hb, hml, hown, hts⟩ (c_X6_isWithin y 0 5 (by first | assumption | omega) (by first | assumption | omega) (by first | assumption | omega)) (va_cwS 3 hts gX6_wind_X6_isWithin rfl rfl rfl (by decide +kernel) ⟨Nat.le_of_ble_eq_true rfl, Nat.le_of_ble_eq_true rfl⟩) hK hNW hP hD hS hA rfl rfl rfl rfl (by decide) rfl rfl rfl hl.1 rfl (Nat.le_of_ble_eq_true rfl) dX6_wind_43 ⟨Nat.zero_le _, Nat.zero_le _⟩ (fun H locs hP hD hS => ?_)
        refine li_top (b := 1) (bz_t (by exact hy2)) ?_
        refine lv_iload_n hx hb dX6_wind_46 rfl (lv_at hl 3 rfl) ?_
        refine li_if_eq (tgt := 54) hx hb dX6_wind_47 (by decide) (ib_i (by omega) (by omega)) (fun c_47 => ?_) (fun c_47 => ?_)
        · refine li_const hx hb dX6_wind_54 ?_
          refine lv_goto (tgt := 59) hx hb dX6_wind_55 (by decide) ?_
          refine cl_i0 (isC := [0, 1, 2, 3, 4]) (isR := []) (isN := [0, 1, 2, 3, 4]) (wr := []) (wn := cMd cI n L a rn sp cnt (chA 1 1 1) (rowF w op tn pl en kd nb) as ln dr M0 M1 M2 M3 M4) (As := [.int (iI 1), .int (iI 1), .int (iI 1)]) (rest := []) (r := bz (chA 1 1 1 = 0)) (ci := 6) (q0 := 0) ⟨hx, hb, hml, hown, hts⟩ (c_X6_check n L a rn sp cnt th w op tn pl en kd nb as ln dr M0 M1 M2 M3 M4 1 1 1 (by first | decide | exact bz_01 _ | omega) (by first | decide | exact bz_01 _ | omega) (by first | decide | exact bz_01 _ | omega)) (cwV 3 hts gX6_wind_X6_check rfl rfl rfl (by decide +kernel) ⟨Nat.le_of_ble_eq_true rfl, Nat.le_of_ble_eq_true rfl⟩) hK hNW hP hD hS hA rfl rfl rfl rfl (by decide) rfl rfl rfl rfl rfl rfl hl.1 rfl (Nat.le_of_ble_eq_true rfl) dX6_wind_59 ⟨Nat.zero_le _, Nat.zero_le _⟩ (fun H locs hP hD hS => ?_)
          refine li_top (b := 1) rfl ?_
          refine li_if_ne_t (tgt := 67) hx hb dX6_wind_62 (by decide) (by decide) (by decide) ?_
          refine lv_aload_n hx hb dX6_wind_67 rfl (lv_at hl 1 rfl) ?_
          refine li_get (ci := 6) (v := .ref M1) (C := RX6) (T := TX6) (N := 11) (q0 := 0) (k := 5) hx hb hts hin_X6 hown hK hP rfl rfl (by decide) hf_9 rfl rfl dX6_wind_68 ?_
          refine li_bipush hx hb dX6_wind_71 (by decide) ?_
          refine lv_iload_n hx hb dX6_wind_73 rfl (lv_at hl 2 rfl) ?_
          refine li_add hx hb dX6_wind_74 ?_
          refine li_iald (q0 := 1) (t0 := 0) (g := (rowF w op tn pl en kd nb)) hx hb hK hP rfl rfl (by omega) (by omega) (ib_i (by omega) (by omega)) dX6_wind_75 ?_
          refine li_top (b := tn x) (rd_t (c := x) (by omega) (by omega) (by omega)) ?_
          refine lv_istore (lv' := [(4, .int (iI (tn x))), (3, .int (iI 0)), (0, .ref M0), (1, .int (iI x)), (2, .int (iI y))]) hx hb dX6_wind_76 hl (by decide) rfl (fun ls hl => ?_)
          refine lv_aload_n hx hb dX6_wind_78 rfl (lv_at hl 2 rfl) ?_
          refine li_get (ci := 6) (v := .ref M1) (C := RX6) (T := TX6) (N := 11) (q0 := 0) (k := 5) hx hb hts hin_X6 hown hK hP rfl rfl (by decide) hf_9 rfl rfl dX6_wind_79 ?_
          refine li_bipush hx hb dX6_wind_82 (by decide) ?_
          refine lv_iload_n hx hb dX6_wind_84 rfl (lv_at hl 3 rfl) ?_
          refine li_add hx hb dX6_wind_85 ?_
          refine lv_iload_n hx hb dX6_wind_86 rfl (lv_at hl 4 rfl) ?_
          refine li_iast (q0 := 1) (t0 := 0) (g := (rowF w op tn pl en kd nb)) (w2 := cMd cI n L a rn sp cnt 0 (rowF w op (upZ tn x y) pl en kd nb) as ln dr M0 M1 M2 M3 M4) hx hb hK hP hD hS rfl rfl (by omega) (by omega) (ib_i (by omega) (by omega)) dX6_wind_87 (by rw [wr_t (c := x) (by omega) (by omega) (by omega)] <;> rfl) (fun H locs hP hD hS => ?_)
          refine lv_iload hx hb dX6_wind_88 (lv_at hl 0 rfl) ?_
          exact li_iret () hx hb hr hlocks hK hP hD hS dX6_wind_90 hQ (by exfalso; first | exact absurd (by assumption) hb9.1 | exact absurd hb9.2 (by unfold beO; simp only [Bool.or_eq_true]; intro h; rcases h with (h | h) | h <;> contradiction)) (congrArg iI (by exfalso; first | exact absurd (by assumption) hb9.1 | exact absurd hb9.2 (by unfold beO; simp only [Bool.or_eq_true]; intro h; rcases h with (h | h) | h <;> contradiction)))
        · refine lv_iload_n hx hb dX6_wind_50 rfl (lv_at hl 0 rfl) ?_
          refine li_if_ne_f (tgt := 58) hx hb dX6_wind_51 (by decide) (by decide) (by decide) ?_
          refine li_const hx hb dX6_wind_54 ?_
          refine lv_goto (tgt := 59) hx hb dX6_wind_55 (by decide) ?_
          refine cl_i0 (isC := [0, 1, 2, 3, 4]) (isR := []) (isN := [0, 1, 2, 3, 4]) (wr := []) (wn := cMd cI n L a rn sp cnt (chA 1 1 1) (rowF w op tn pl en kd nb) as ln dr M0 M1 M2 M3 M4) (As := [.int (iI 1), .int (iI 1), .int (iI 1)]) (rest := []) (r := bz (chA 1 1 1 = 0)) (ci := 6) (q0 := 0) ⟨hx, hb, hml, hown, hts⟩ (c_X6_check n L a rn sp cnt th w op tn pl en kd nb as ln dr M0 M1 M2 M3 M4 1 1 1 (by first | decide | exact bz_01 _ | omega) (by first | decide | exact bz_01 _ | omega) (by first | decide | exact bz_01 _ | omega)) (cwV 3 hts gX6_wind_X6_check rfl rfl rfl (by decide +kernel) ⟨Nat.le_of_ble_eq_true rfl, Nat.le_of_ble_eq_true rfl⟩) hK hNW hP hD hS hA rfl rfl rfl rfl (by decide) rfl rfl rfl rfl rfl rfl hl.1 rfl (Nat.le_of_ble_eq_true rfl) dX6_wind_59 ⟨Nat.zero_le _, Nat.zero_le _⟩ (fun H locs hP hD hS => ?_)
          refine li_top (b := 1) rfl ?_
          refine li_if_ne_t (tgt := 67) hx hb dX6_wind_62 (by decide) (by decide) (by decide) ?_
          refine lv_aload_n hx hb dX6_wind_67 rfl (lv_at hl 1 rfl) ?_
          refine li_get (ci := 6) (v := .ref M1) (C := RX6) (T := TX6) (N := 11) (q0 := 0) (k := 5) hx hb hts hin_X6 hown hK hP rfl rfl (by decide) hf_9 rfl rfl dX6_wind_68 ?_
          refine li_bipush hx hb dX6_wind_71 (by decide) ?_
          refine lv_iload_n hx hb dX6_wind_73 rfl (lv_at hl 2 rfl) ?_
          refine li_add hx hb dX6_wind_74 ?_
          refine li_iald (q0 := 1) (t0 := 0) (g := (rowF w op tn pl en kd nb)) hx hb hK hP rfl rfl (by omega) (by omega) (ib_i (by omega) (by omega)) dX6_wind_75 ?_
          refine li_top (b := tn x) (rd_t (c := x) (by omega) (by omega) (by omega)) ?_
          refine lv_istore (lv' := [(4, .int (iI (tn x))), (3, .int (iI 0)), (0, .ref M0), (1, .int (iI x)), (2, .int (iI y))]) hx hb dX6_wind_76 hl (by decide) rfl (fun ls hl => ?_)
          refine lv_aload_n hx hb dX6_wind_78 rfl (lv_at hl 2 rfl) ?_
          refine li_get (ci := 6) (v := .ref M1) (C := RX6) (T := TX6) (N := 11) (q0 := 0) (k := 5) hx hb hts hin_X6 hown hK hP rfl rfl (by decide) hf_9 rfl rfl dX6_wind_79 ?_
          refine li_bipush hx hb dX6_wind_82 (by decide) ?_
          refine lv_iload_n hx hb dX6_wind_84 rfl (lv_at hl 3 rfl) ?_
          refine li_add hx hb dX6_wind_85 ?_
          refine lv_iload_n hx hb dX6_wind_86 rfl (lv_at hl 4 rfl) ?_
          refine li_iast (q0 := 1) (t0 := 0) (g := (rowF w op tn pl en kd nb)) (w2 := cMd cI n L a rn sp cnt 0 (rowF w op (upZ tn x y) pl en kd nb) as ln dr M0 M1 M2 M3 M4) hx hb hK hP hD hS rfl rfl (by omega) (by omega) (ib_i (by omega) (by omega)) dX6_wind_87 (by rw [wr_t (c := x) (by omega) (by omega) (by omega)] <;> rfl) (fun H locs hP hD hS => ?_)
          refine lv_iload hx hb dX6_wind_88 (lv_at hl 0 rfl) ?_
          exact li_iret () hx hb hr hlocks hK hP hD hS dX6_wind_90 hQ (by exfalso; first | exact absurd (by assumption) hb9.1 | exact absurd hb9.2 (by unfold beO; simp only [Bool.or_eq_true]; intro h; rcases h with (h | h) | h <;> contradiction)) (congrArg iI (by exfalso; first | exact absurd (by assumption) hb9.1 | exact absurd hb9.2 (by unfold beO; simp only [Bool.or_eq_true]; intro h; rcases h with (h | h) | h <;> contradiction)))
      · refine li_const hx hb dX6_wind_28 ?_
        refine lv_goto (tgt := 33) hx hb dX6_wind_29 (by decide) ?_
        refine lv_istore_n (lv' := [(3, .int (iI 1)), (0, .ref M0), (1, .int (iI x)), (2, .int (iI y))]) hx hb dX6_wind_33 rfl hl (by decide) rfl (fun ls hl => ?_)
        refine lv_aload_n hx hb dX6_wind_34 rfl (lv_at hl 1 rfl) ?_
        refine lv_aload_n hx hb dX6_wind_35 rfl (lv_at hl 1 rfl) ?_
        refine lv_iload_n hx hb dX6_wind_36 rfl (lv_at hl 2 rfl) ?_
        refine cl_i0 (isC := [0, 1, 2, 3, 4]) (isR := []) (isN := [0, 1, 2, 3, 4]) (wr := []) (wn := cMd cI n L a rn sp cnt th (rowF w op tn pl en kd nb) as ln dr M0 M1 M2 M3 M4) (As := [.int (iI x)]) (rest := [.ref M0]) (r := bz (0 ≤ x ∧ x ≤ n)) (ci := 6) (q0 := 0) ⟨hx, hb, hml, hown, hts⟩ (c_X6_isGate n L a rn sp cnt th w op tn pl en kd nb as ln dr M0 M1 M2 M3 M4 x (by first | assumption | omega) (by first | assumption | omega) (by first | assumption | omega) (by first | assumption | omega)) (cwV 1 hts gX6_wind_X6_isGate rfl rfl rfl (by decide +kernel) ⟨Nat.le_of_ble_eq_true rfl, Nat.le_of_ble_eq_true rfl⟩) hK hNW hP hD hS hA rfl rfl rfl rfl (by decide) rfl rfl rfl rfl rfl rfl hl.1 rfl (Nat.le_of_ble_eq_true rfl) dX6_wind_37 ⟨Nat.zero_le _, Nat.zero_le _⟩ (fun H locs hP hD hS => ?_)
        refine li_top (b := 1) (bz_t (by exact hv)) ?_
        refine lv_iload_n hx hb dX6_wind_40 rfl (lv_at hl 3 rfl) ?_
        refine li_const hx hb dX6_wind_41 ?_
        refine li_const hx hb dX6_wind_42 ?_
        refine cs_i0 (isC := []) (isR := [0, 1, 2, 3, 4]) (isN := [0, 1, 2, 3, 4]) (wr := cMd cI n L a rn sp cnt th (rowF w op tn pl en kd nb) as ln dr M0 M1 M2 M3 M4) (wn := cMd cI n L a rn sp cnt th (rowF w op tn pl en kd nb) as ln dr M0 M1 M2 M3 M4) (As := [.int (iI y), .int (iI 0), .int (iI 5)]) (rest := [.int (iI 1), .ref M0]) (r := bz (0 ≤ y ∧ y ≤ 5)) ⟨hx, hb, hml, hown, hts⟩ (c_X6_isWithin y 0 5 (by first | assumption | omega) (by first | assumption | omega) (by first | assumption | omega)) (va_cwS 3 hts gX6_wind_X6_isWithin rfl rfl rfl (by decide +kernel) ⟨Nat.le_of_ble_eq_true rfl, Nat.le_of_ble_eq_true rfl⟩) hK hNW hP hD hS hA rfl rfl rfl rfl (by decide) rfl rfl rfl hl.1 rfl (Nat.le_of_ble_eq_true rfl) dX6_wind_43 ⟨Nat.zero_le _, Nat.zero_le _⟩ (fun H locs hP hD hS => ?_)
        refine li_top (b := 1) (bz_t (by exact hy2)) ?_
        refine lv_iload_n hx hb dX6_wind_46 rfl (lv_at hl 3 rfl) ?_
        refine li_if_eq (tgt := 54) hx hb dX6_wind_47 (by decide) (ib_i (by omega) (by omega)) (fun c_47 => ?_) (fun c_47 => ?_)
        · refine li_const hx hb dX6_wind_54 ?_
          refine lv_goto (tgt := 59) hx hb dX6_wind_55 (by decide) ?_
          refine cl_i0 (isC := [0, 1, 2, 3, 4]) (isR := []) (isN := [0, 1, 2, 3, 4]) (wr := []) (wn := cMd cI n L a rn sp cnt (chA 1 1 1) (rowF w op tn pl en kd nb) as ln dr M0 M1 M2 M3 M4) (As := [.int (iI 1), .int (iI 1), .int (iI 1)]) (rest := []) (r := bz (chA 1 1 1 = 0)) (ci := 6) (q0 := 0) ⟨hx, hb, hml, hown, hts⟩ (c_X6_check n L a rn sp cnt th w op tn pl en kd nb as ln dr M0 M1 M2 M3 M4 1 1 1 (by first | decide | exact bz_01 _ | omega) (by first | decide | exact bz_01 _ | omega) (by first | decide | exact bz_01 _ | omega)) (cwV 3 hts gX6_wind_X6_check rfl rfl rfl (by decide +kernel) ⟨Nat.le_of_ble_eq_true rfl, Nat.le_of_ble_eq_true rfl⟩) hK hNW hP hD hS hA rfl rfl rfl rfl (by decide) rfl rfl rfl rfl rfl rfl hl.1 rfl (Nat.le_of_ble_eq_true rfl) dX6_wind_59 ⟨Nat.zero_le _, Nat.zero_le _⟩ (fun H locs hP hD hS => ?_)
          refine li_top (b := 1) rfl ?_
          refine li_if_ne_t (tgt := 67) hx hb dX6_wind_62 (by decide) (by decide) (by decide) ?_
          refine lv_aload_n hx hb dX6_wind_67 rfl (lv_at hl 1 rfl) ?_
          refine li_get (ci := 6) (v := .ref M1) (C := RX6) (T := TX6) (N := 11) (q0 := 0) (k := 5) hx hb hts hin_X6 hown hK hP rfl rfl (by decide) hf_9 rfl rfl dX6_wind_68 ?_
          refine li_bipush hx hb dX6_wind_71 (by decide) ?_
          refine lv_iload_n hx hb dX6_wind_73 rfl (lv_at hl 2 rfl) ?_
          refine li_add hx hb dX6_wind_74 ?_
          refine li_iald (q0 := 1) (t0 := 0) (g := (rowF w op tn pl en kd nb)) hx hb hK hP rfl rfl (by omega) (by omega) (ib_i (by omega) (by omega)) dX6_wind_75 ?_
          refine li_top (b := tn x) (rd_t (c := x) (by omega) (by omega) (by omega)) ?_
          refine lv_istore (lv' := [(4, .int (iI (tn x))), (3, .int (iI 1)), (0, .ref M0), (1, .int (iI x)), (2, .int (iI y))]) hx hb dX6_wind_76 hl (by decide) rfl (fun ls hl => ?_)
          refine lv_aload_n hx hb dX6_wind_78 rfl (lv_at hl 2 rfl) ?_
          refine li_get (ci := 6) (v := .ref M1) (C := RX6) (T := TX6) (N := 11) (q0 := 0) (k := 5) hx hb hts hin_X6 hown hK hP rfl rfl (by decide) hf_9 rfl rfl dX6_wind_79 ?_
          refine li_bipush hx hb dX6_wind_82 (by decide) ?_
          refine lv_iload_n hx hb dX6_wind_84 rfl (lv_at hl 3 rfl) ?_
          refine li_add hx hb dX6_wind_85 ?_
          refine lv_iload_n hx hb dX6_wind_86 rfl (lv_at hl 4 rfl) ?_
          refine li_iast (q0 := 1) (t0 := 0) (g := (rowF w op tn pl en kd nb)) (w2 := cMd cI n L a rn sp cnt 0 (rowF w op (upZ tn x y) pl en kd nb) as ln dr M0 M1 M2 M3 M4) hx hb hK hP hD hS rfl rfl (by omega) (by omega) (ib_i (by omega) (by omega)) dX6_wind_87 (by rw [wr_t (c := x) (by omega) (by omega) (by omega)] <;> rfl) (fun H locs hP hD hS => ?_)
          refine lv_iload hx hb dX6_wind_88 (lv_at hl 0 rfl) ?_
          exact li_iret () hx hb hr hlocks hK hP hD hS dX6_wind_90 hQ (by exfalso; first | exact absurd (by assumption) hb9.1 | exact absurd hb9.2 (by unfold beO; simp only [Bool.or_eq_true]; intro h; rcases h with (h | h) | h <;> contradiction)) (congrArg iI (by exfalso; first | exact absurd (by assumption) hb9.1 | exact absurd hb9.2 (by unfold beO; simp only [Bool.or_eq_true]; intro h; rcases h with (h | h) | h <;> contradiction)))
        · refine lv_iload_n hx hb dX6_wind_50 rfl (lv_at hl 0 rfl) ?_
          refine li_if_ne_t (tgt := 58) hx hb dX6_wind_51 (by decide) (by decide) (by decide) ?_
          refine li_const hx hb dX6_wind_58 ?_
          refine cl_i0 (isC := [0, 1, 2, 3, 4]) (isR := []) (isN := [0, 1, 2, 3, 4]) (wr := []) (wn := cMd cI n L a rn sp cnt (chA 1 1 0) (rowF w op tn pl en kd nb) as ln dr M0 M1 M2 M3 M4) (As := [.int (iI 1), .int (iI 1), .int (iI 0)]) (rest := []) (r := bz (chA 1 1 0 = 0)) (ci := 6) (q0 := 0) ⟨hx, hb, hml, hown, hts⟩ (c_X6_check n L a rn sp cnt th w op tn pl en kd nb as ln dr M0 M1 M2 M3 M4 1 1 0 (by first | decide | exact bz_01 _ | omega) (by first | decide | exact bz_01 _ | omega) (by first | decide | exact bz_01 _ | omega)) (cwV 3 hts gX6_wind_X6_check rfl rfl rfl (by decide +kernel) ⟨Nat.le_of_ble_eq_true rfl, Nat.le_of_ble_eq_true rfl⟩) hK hNW hP hD hS hA rfl rfl rfl rfl (by decide) rfl rfl rfl rfl rfl rfl hl.1 rfl (Nat.le_of_ble_eq_true rfl) dX6_wind_59 ⟨Nat.zero_le _, Nat.zero_le _⟩ (fun H locs hP hD hS => ?_)
          refine li_top (b := 0) rfl ?_
          refine li_if_ne_f (tgt := 67) hx hb dX6_wind_62 (by decide) (by decide) (by decide) ?_
          refine li_const hx hb dX6_wind_65 ?_
          exact li_iret () hx hb hr hlocks hK hP hD hS dX6_wind_66 hQ rfl (congrArg iI (rfl))

set_option maxRecDepth 100000 in
set_option maxHeartbeats 4000000 in
theorem c_X6_pass_ok {l : Launch} {D : va_G} {cI cZ cJ : ClassId} (n : Int) (L : Int) (a : Int) (rn : Int) (sp : Int) (cnt : Int) (th : Int) (w : Wt) (op : Int → Int) (tn : Int → Int) (pl : Int → Int) (en : Int) (kd : Int → Int) (nb : Int → Int) (as : Int → Int) (ln : Int → Int) (dr : Int → Int) (M0 M1 M2 M3 M4 : Nat) (x : Int) (hn : 1 ≤ n ∧ n ≤ 6) (hL : 5 ≤ L ∧ L ≤ 40) (ha : 1 ≤ a ∧ a ≤ 50) (hw : WI n L a w) (htn : tnB tn) (i_x : -2147483648 ≤ x ∧ x < 2147483648) (hv : 1 ≤ x ∧ x ≤ 60) : Di l yX6_pass wsX6_pass 25 [.ref M0, .int (iI x)] D (ty3 cI cZ cJ) (cMd cI n L a rn sp cnt th (rowF w op tn pl en kd nb) as ln dr M0 M1 M2 M3 M4) ((psW n L a tn x.toNat w).1) (cMd cI n L a rn sp cnt 0 (rowF ((psW n L a tn x.toNat w).2) op tn pl en kd nb) as ln dr M0 M1 M2 M3 M4) := by
  refine ct_i (plainFor_of_name (by decide)) rfl (Nat.le_of_ble_eq_true rfl) ?_
  intro p e s mI args below meth c_0 ls A hx hb hr hml hts hown hlocks hin hA hP hK hD hNW hS hl Q hQ
  have hown : s.vm.findClass RX6 = some mI.cls := hown
  have hl : lv_has ls 4 [(0, .ref M0), (1, .int (iI x))] := hl
  refine lv_aload_n hx hb dX6_pass_0 rfl (lv_at hl 0 rfl) ?_
  refine lv_iload_n hx hb dX6_pass_1 rfl (lv_at hl 1 rfl) ?_
  refine li_const hx hb dX6_pass_2 ?_
  refine li_bipush hx hb dX6_pass_3 (by decide) ?_
  refine cs_i0 (isC := []) (isR := [0, 1, 2, 3, 4]) (isN := [0, 1, 2, 3, 4]) (wr := cMd cI n L a rn sp cnt th (rowF w op tn pl en kd nb) as ln dr M0 M1 M2 M3 M4) (wn := cMd cI n L a rn sp cnt th (rowF w op tn pl en kd nb) as ln dr M0 M1 M2 M3 M4) (As := [.int (iI x), .int (iI 1), .int (iI 60)]) (rest := [.ref M0]) (r := bz (1 ≤ x ∧ x ≤ 60)) ⟨hx, hb, hml, hown, hts⟩ (c_X6_isWithin x 1 60 (by first | assumption | omega) (by first | assumption | omega) (by first | assumption | omega)) (va_cwS 3 hts gX6_pass_X6_isWithin rfl rfl rfl (by decide +kernel) ⟨Nat.le_of_ble_eq_true rfl, Nat.le_of_ble_eq_true rfl⟩) hK hNW hP hD hS hA rfl rfl rfl rfl (by decide) rfl rfl rfl hl.1 rfl (Nat.le_of_ble_eq_true rfl) dX6_pass_5 ⟨Nat.zero_le _, Nat.zero_le _⟩ (fun H locs hP hD hS => ?_)
  refine li_top (b := 1) (bz_t (by exact hv)) ?_
  refine li_const hx hb dX6_pass_8 ?_
  refine li_const hx hb dX6_pass_9 ?_
  refine cl_i0 (isC := [0, 1, 2, 3, 4]) (isR := []) (isN := [0, 1, 2, 3, 4]) (wr := []) (wn := cMd cI n L a rn sp cnt (chA 1 1 1) (rowF w op tn pl en kd nb) as ln dr M0 M1 M2 M3 M4) (As := [.int (iI 1), .int (iI 1), .int (iI 1)]) (rest := []) (r := bz (chA 1 1 1 = 0)) (ci := 6) (q0 := 0) ⟨hx, hb, hml, hown, hts⟩ (c_X6_check n L a rn sp cnt th w op tn pl en kd nb as ln dr M0 M1 M2 M3 M4 1 1 1 (by first | decide | exact bz_01 _ | omega) (by first | decide | exact bz_01 _ | omega) (by first | decide | exact bz_01 _ | omega)) (cwV 3 hts gX6_pass_X6_check rfl rfl rfl (by decide +kernel) ⟨Nat.le_of_ble_eq_true rfl, Nat.le_of_ble_eq_true rfl⟩) hK hNW hP hD hS hA rfl rfl rfl rfl (by decide) rfl rfl rfl rfl rfl rfl hl.1 rfl (Nat.le_of_ble_eq_true rfl) dX6_pass_10 ⟨Nat.zero_le _, Nat.zero_le _⟩ (fun H locs hP hD hS => ?_)
  refine li_top (b := 1) rfl ?_
  refine li_if_ne_t (tgt := 18) hx hb dX6_pass_13 (by decide) (by decide) (by decide) ?_
  refine li_const hx hb dX6_pass_18 ?_
  refine lv_istore_n (lv' := [(2, .int (iI 0)), (0, .ref M0), (1, .int (iI x))]) hx hb dX6_pass_19 rfl hl (by decide) rfl (fun ls hl => ?_)
  refine li_const hx hb dX6_pass_20 ?_
  refine lv_istore_n (lv' := [(3, .int (iI 0)), (2, .int (iI 0)), (0, .ref M0), (1, .int (iI x))]) hx hb dX6_pass_21 rfl hl (by decide) rfl (fun ls hl => ?_)
  have loop_22 : ∀ (N : Nat) (j : Int) (sv : Int) (w2 : Wt), (0 ≤ j ∧ j ≤ x) → (sv = (psW n L a tn j.toNat w).1) → (w2 = (psW n L a tn j.toNat w).2) → x - j < (N : Int) → ∀ (H : Heap) (locs : List Loc), va_P D vwCl (cMd cI n L a rn sp cnt 0 (rowF w2 op tn pl en kd nb) as ln dr M0 M1 M2 M3 M4) H → va_D A (cMd cI n L a rn sp cnt 0 (rowF w2 op tn pl en kd nb) as ln dr M0 M1 M2 M3 M4) → va_S A s.heap H locs → ∀ (ls : Array Slot), lv_has ls 4 [(3, .int (iI j)), (2, .int (iI sv)), (0, .ref M0), (1, .int (iI x))] → W p l e (rK 25 0 0) s mI args below meth c_0 H locs 0 0 Q (F0 mI 22 ls []) := by
    intro N
    induction N with
    | zero =>
      intro j sv w2 hj hh hh2 hN
      exact absurd hN (by omega)
    | succ N ih =>
      intro j sv w2 hj hh hh2 hN H locs hP hD hS ls hl
      have hw2 : WI n L a w2 := by rw [hh2]; exact psW_WI hn hL ha _ _ hw
      refine lv_iload_n hx hb dX6_pass_22 rfl (lv_at hl 0 rfl) ?_
      refine lv_iload_n hx hb dX6_pass_23 rfl (lv_at hl 3 rfl) ?_
      refine li_icmp_ge (tgt := 40) hx hb dX6_pass_24 (by decide) (ib_i (by omega) (by omega)) (ib_i (by omega) (by omega)) (fun c_24 => ?_) (fun c_24 => ?_)
      · refine lv_iload_n hx hb dX6_pass_40 rfl (lv_at hl 1 rfl) ?_
        exact li_iret () hx hb hr hlocks hK hP hD hS dX6_pass_41 hQ (by rw [hh2, show j = x by omega]) (congrArg iI (by rw [hh, show j = x by omega]))
      · refine lv_iload_n hx hb dX6_pass_27 rfl (lv_at hl 1 rfl) ?_
        refine lv_aload_n hx hb dX6_pass_28 rfl (lv_at hl 2 rfl) ?_
        refine cl_i0 (isC := [0, 1, 2, 3, 4]) (isR := []) (isN := [0, 1, 2, 3, 4]) (wr := []) (wn := cMd cI n L a rn sp cnt 0 (rowF ((paW n L a tn (n + 1).toNat (tickW 1 w2)).2) op tn pl en kd nb) as ln dr M0 M1 M2 M3 M4) (As := []) (rest := [.int (iI sv)]) (r := (paW n L a tn (n + 1).toNat (tickW 1 w2)).1) (ci := 6) (q0 := 0) ⟨hx, hb, hml, hown, hts⟩ (c_X6_flowAll n L a rn sp cnt 0 w2 op tn pl en kd nb as ln dr M0 M1 M2 M3 M4 (by first | assumption | omega) (by first | assumption | omega) (by first | assumption | omega) (by exact hw2) (by first | assumption | omega)) (cwV 0 hts gX6_pass_X6_flowAll rfl rfl rfl (by decide +kernel) ⟨Nat.le_of_ble_eq_true rfl, Nat.le_of_ble_eq_true rfl⟩) hK hNW hP hD hS hA rfl rfl rfl rfl (by decide) rfl rfl rfl rfl rfl rfl hl.1 rfl (Nat.le_of_ble_eq_true rfl) dX6_pass_29 ⟨Nat.zero_le _, Nat.zero_le _⟩ (fun H locs hP hD hS => ?_)
        refine li_add hx hb dX6_pass_32 ?_
        refine lv_istore_n (lv' := [(2, .int (iI (sv + ((paW n L a tn (n + 1).toNat (tickW 1 w2)).1)))), (3, .int (iI j)), (0, .ref M0), (1, .int (iI x))]) hx hb dX6_pass_33 rfl hl (by decide) rfl (fun ls hl => ?_)
        refine li_inc (j := 1) (lv' := [(3, .int (iI (j + 1))), (2, .int (iI (sv + ((paW n L a tn (n + 1).toNat (tickW 1 w2)).1)))), (0, .ref M0), (1, .int (iI x))]) hx hb dX6_pass_34 hl rfl (by decide) rfl (fun ls hl => ?_)
        refine lv_goto (tgt := 22) hx hb dX6_pass_37 (by decide) ?_
        exact ih (j + 1) (sv + ((paW n L a tn (n + 1).toNat (tickW 1 w2)).1)) ((paW n L a tn (n + 1).toNat (tickW 1 w2)).2) (by omega) (by rw [psW_s _ _ _ _ _ hj.1, hh, hh2]) (by rw [psW_s _ _ _ _ _ hj.1, hh2]) (by omega) _ _ hP hD hS _ (lv_sub hl [0, 1, 2, 3] rfl)
  exact loop_22 (((x - 0) : Int) + 1).toNat 0 0 w (by omega) (by rfl) (by rfl) (by omega) _ _ hP hD hS _ (lv_sub hl [0, 1, 2, 3] rfl)

set_option maxRecDepth 100000 in
set_option maxHeartbeats 4000000 in
theorem c_X6_pass_no {l : Launch} {D : va_G} {cI cZ cJ : ClassId} (n : Int) (L : Int) (a : Int) (rn : Int) (sp : Int) (cnt : Int) (th : Int) (w : Wt) (op : Int → Int) (tn : Int → Int) (pl : Int → Int) (en : Int) (kd : Int → Int) (nb : Int → Int) (as : Int → Int) (ln : Int → Int) (dr : Int → Int) (M0 M1 M2 M3 M4 : Nat) (x : Int) (hn : 1 ≤ n ∧ n ≤ 6) (hL : 5 ≤ L ∧ L ≤ 40) (ha : 1 ≤ a ∧ a ≤ 50) (hw : WI n L a w) (htn : tnB tn) (i_x : -2147483648 ≤ x ∧ x < 2147483648) (hv : ¬ (1 ≤ x ∧ x ≤ 60)) : Di l yX6_pass wsX6_pass 25 [.ref M0, .int (iI x)] D (ty3 cI cZ cJ) (cMd cI n L a rn sp cnt th (rowF w op tn pl en kd nb) as ln dr M0 M1 M2 M3 M4) (0) (cMd cI n L a rn sp cnt 1 (rowF w op tn pl en kd nb) as ln dr M0 M1 M2 M3 M4) := by
  refine ct_i (plainFor_of_name (by decide)) rfl (Nat.le_of_ble_eq_true rfl) ?_
  intro p e s mI args below meth c_0 ls A hx hb hr hml hts hown hlocks hin hA hP hK hD hNW hS hl Q hQ
  have hown : s.vm.findClass RX6 = some mI.cls := hown
  have hl : lv_has ls 4 [(0, .ref M0), (1, .int (iI x))] := hl
  refine lv_aload_n hx hb dX6_pass_0 rfl (lv_at hl 0 rfl) ?_
  refine lv_iload_n hx hb dX6_pass_1 rfl (lv_at hl 1 rfl) ?_
  refine li_const hx hb dX6_pass_2 ?_
  refine li_bipush hx hb dX6_pass_3 (by decide) ?_
  refine cs_i0 (isC := []) (isR := [0, 1, 2, 3, 4]) (isN := [0, 1, 2, 3, 4]) (wr := cMd cI n L a rn sp cnt th (rowF w op tn pl en kd nb) as ln dr M0 M1 M2 M3 M4) (wn := cMd cI n L a rn sp cnt th (rowF w op tn pl en kd nb) as ln dr M0 M1 M2 M3 M4) (As := [.int (iI x), .int (iI 1), .int (iI 60)]) (rest := [.ref M0]) (r := bz (1 ≤ x ∧ x ≤ 60)) ⟨hx, hb, hml, hown, hts⟩ (c_X6_isWithin x 1 60 (by first | assumption | omega) (by first | assumption | omega) (by first | assumption | omega)) (va_cwS 3 hts gX6_pass_X6_isWithin rfl rfl rfl (by decide +kernel) ⟨Nat.le_of_ble_eq_true rfl, Nat.le_of_ble_eq_true rfl⟩) hK hNW hP hD hS hA rfl rfl rfl rfl (by decide) rfl rfl rfl hl.1 rfl (Nat.le_of_ble_eq_true rfl) dX6_pass_5 ⟨Nat.zero_le _, Nat.zero_le _⟩ (fun H locs hP hD hS => ?_)
  refine li_top (b := 0) (bz_f (by exact hv)) ?_
  refine li_const hx hb dX6_pass_8 ?_
  refine li_const hx hb dX6_pass_9 ?_
  refine cl_i0 (isC := [0, 1, 2, 3, 4]) (isR := []) (isN := [0, 1, 2, 3, 4]) (wr := []) (wn := cMd cI n L a rn sp cnt (chA 0 1 1) (rowF w op tn pl en kd nb) as ln dr M0 M1 M2 M3 M4) (As := [.int (iI 0), .int (iI 1), .int (iI 1)]) (rest := []) (r := bz (chA 0 1 1 = 0)) (ci := 6) (q0 := 0) ⟨hx, hb, hml, hown, hts⟩ (c_X6_check n L a rn sp cnt th w op tn pl en kd nb as ln dr M0 M1 M2 M3 M4 0 1 1 (by first | decide | exact bz_01 _ | omega) (by first | decide | exact bz_01 _ | omega) (by first | decide | exact bz_01 _ | omega)) (cwV 3 hts gX6_pass_X6_check rfl rfl rfl (by decide +kernel) ⟨Nat.le_of_ble_eq_true rfl, Nat.le_of_ble_eq_true rfl⟩) hK hNW hP hD hS hA rfl rfl rfl rfl (by decide) rfl rfl rfl rfl rfl rfl hl.1 rfl (Nat.le_of_ble_eq_true rfl) dX6_pass_10 ⟨Nat.zero_le _, Nat.zero_le _⟩ (fun H locs hP hD hS => ?_)
  refine li_top (b := 0) rfl ?_
  refine li_if_ne_f (tgt := 18) hx hb dX6_pass_13 (by decide) (by decide) (by decide) ?_
  refine li_const hx hb dX6_pass_16 ?_
  exact li_iret () hx hb hr hlocks hK hP hD hS dX6_pass_17 hQ rfl (congrArg iI (rfl))

set_option maxRecDepth 100000 in
set_option maxHeartbeats 4000000 in
theorem c_X6_addBoat_ok {l : Launch} {D : va_G} {cI cZ cJ : ClassId} (n : Int) (L : Int) (a : Int) (rn : Int) (sp : Int) (cnt : Int) (th : Int) (w : Wt) (op : Int → Int) (tn : Int → Int) (pl : Int → Int) (en : Int) (kd : Int → Int) (nb : Int → Int) (as : Int → Int) (ln : Int → Int) (dr : Int → Int) (M0 M1 M2 M3 M4 : Nat) (x : Int) (y : Int) (z : Int) (hn : 1 ≤ n ∧ n ≤ 6) (hL : 5 ≤ L ∧ L ≤ 40) (ha : 1 ≤ a ∧ a ≤ 50) (hw : WI n L a w) (hcnt : 0 ≤ cnt ∧ cnt ≤ 10) (hz9 : z = 0 ∨ z = 1) (i_x : -2147483648 ≤ x ∧ x < 2147483648) (i_y : -2147483648 ≤ y ∧ y < 2147483648) (hv1 : 5 ≤ x ∧ x ≤ 60) (hv2 : 1 ≤ y ∧ y ≤ 19) (hv3 : cnt ≤ 9 ∧ (z = 0 ∨ y ≤ w.1 / a)) : Di l yX6_addBoat wsX6_addBoat 25 [.ref M0, .int (iI x), .int (iI y), .int (iI z)] D (ty3 cI cZ cJ) (cMd cI n L a rn sp cnt th (rowF w op tn pl en kd nb) as ln dr M0 M1 M2 M3 M4) (cnt) (cMd cI n L a rn sp (cnt + 1) 0 (rowF w op tn (upZ pl cnt (if z = 0 then 0 else n + 1)) en kd nb) as (upZ ln cnt x) (upZ dr cnt y) M0 M1 M2 M3 M4) := by
  refine ct_i (plainFor_of_name (by decide)) rfl (Nat.le_of_ble_eq_true rfl) ?_
  intro p e s mI args below meth c_0 ls A hx hb hr hml hts hown hlocks hin hA hP hK hD hNW hS hl Q hQ
  have hown : s.vm.findClass RX6 = some mI.cls := hown
  have hl : lv_has ls 5 [(0, .ref M0), (1, .int (iI x)), (2, .int (iI y)), (3, .int (iI z))] := hl
  have hin_X6 : ∀ w ∈ wsX60, w ∈ wsX6_addBoat := by decide +kernel
  have hf_16 := hts (.fieldLink RX6 16 "LockStaircaseModel" "lengths" "[I") (by decide +kernel)
  have hf_19 := hts (.fieldLink RX6 19 "LockStaircaseModel" "draughts" "[I") (by decide +kernel)
  have hf_26 := hts (.fieldLink RX6 26 "LockStaircaseModel" "chambers" "I") (by decide +kernel)
  have hf_56 := hts (.fieldLink RX6 56 "LockStaircaseModel" "boats" "I") (by decide +kernel)
  have hf_9 := hts (.fieldLink RX6 9 "LockStaircaseModel" "row" "[I") (by decide +kernel)
  have hw1 : -1000 ≤ w.1 ∧ w.1 ≤ 20 * a := hw.1
  have d1 := dv_b ha hw1.1 hw1.2
  refine lv_iload_n hx hb dX6_addBoat_0 rfl (lv_at hl 1 rfl) ?_
  refine li_const hx hb dX6_addBoat_1 ?_
  refine li_bipush hx hb dX6_addBoat_2 (by decide) ?_
  refine cs_i0 (isC := []) (isR := [0, 1, 2, 3, 4]) (isN := [0, 1, 2, 3, 4]) (wr := cMd cI n L a rn sp cnt th (rowF w op tn pl en kd nb) as ln dr M0 M1 M2 M3 M4) (wn := cMd cI n L a rn sp cnt th (rowF w op tn pl en kd nb) as ln dr M0 M1 M2 M3 M4) (As := [.int (iI x), .int (iI 5), .int (iI 60)]) (rest := []) (r := bz (5 ≤ x ∧ x ≤ 60)) ⟨hx, hb, hml, hown, hts⟩ (c_X6_isWithin x 5 60 (by first | assumption | omega) (by first | assumption | omega) (by first | assumption | omega)) (va_cwS 3 hts gX6_addBoat_X6_isWithin rfl rfl rfl (by decide +kernel) ⟨Nat.le_of_ble_eq_true rfl, Nat.le_of_ble_eq_true rfl⟩) hK hNW hP hD hS hA rfl rfl rfl rfl (by decide) rfl rfl rfl hl.1 rfl (Nat.le_of_ble_eq_true rfl) dX6_addBoat_4 ⟨Nat.zero_le _, Nat.zero_le _⟩ (fun H locs hP hD hS => ?_)
  refine li_top (b := 1) (bz_t (by exact hv1)) ?_
  refine li_if_eq_f (tgt := 24) hx hb dX6_addBoat_7 (by decide) (by decide) (by decide) ?_
  refine lv_iload_n hx hb dX6_addBoat_10 rfl (lv_at hl 2 rfl) ?_
  refine li_const hx hb dX6_addBoat_11 ?_
  refine li_bipush hx hb dX6_addBoat_12 (by decide) ?_
  refine cs_i0 (isC := []) (isR := [0, 1, 2, 3, 4]) (isN := [0, 1, 2, 3, 4]) (wr := cMd cI n L a rn sp cnt th (rowF w op tn pl en kd nb) as ln dr M0 M1 M2 M3 M4) (wn := cMd cI n L a rn sp cnt th (rowF w op tn pl en kd nb) as ln dr M0 M1 M2 M3 M4) (As := [.int (iI y), .int (iI 1), .int (iI 19)]) (rest := []) (r := bz (1 ≤ y ∧ y ≤ 19)) ⟨hx, hb, hml, hown, hts⟩ (c_X6_isWithin y 1 19 (by first | assumption | omega) (by first | assumption | omega) (by first | assumption | omega)) (va_cwS 3 hts gX6_addBoat_X6_isWithin rfl rfl rfl (by decide +kernel) ⟨Nat.le_of_ble_eq_true rfl, Nat.le_of_ble_eq_true rfl⟩) hK hNW hP hD hS hA rfl rfl rfl rfl (by decide) rfl rfl rfl hl.1 rfl (Nat.le_of_ble_eq_true rfl) dX6_addBoat_14 ⟨Nat.zero_le _, Nat.zero_le _⟩ (fun H locs hP hD hS => ?_)
  refine li_top (b := 1) (bz_t (by exact hv2)) ?_
  refine li_if_eq_f (tgt := 24) hx hb dX6_addBoat_17 (by decide) (by decide) (by decide) ?_
  refine li_const hx hb dX6_addBoat_20 ?_
  refine lv_goto (tgt := 25) hx hb dX6_addBoat_21 (by decide) ?_
  refine lv_istore (lv' := [(4, .int (iI 1)), (0, .ref M0), (1, .int (iI x)), (2, .int (iI y)), (3, .int (iI z))]) hx hb dX6_addBoat_25 hl (by decide) rfl (fun ls hl => ?_)
  refine lv_aload_n hx hb dX6_addBoat_27 rfl (lv_at hl 1 rfl) ?_
  refine lv_iload hx hb dX6_addBoat_28 (lv_at hl 0 rfl) ?_
  refine lv_aload_n hx hb dX6_addBoat_30 rfl (lv_at hl 1 rfl) ?_
  refine li_get (ci := 6) (v := .int (iI cnt)) (C := RX6) (T := TX6) (N := 11) (q0 := 0) (k := 9) hx hb hts hin_X6 hown hK hP rfl rfl (by decide) hf_56 rfl rfl dX6_addBoat_31 ?_
  refine li_bipush hx hb dX6_addBoat_34 (by decide) ?_
  refine li_icmp_ge (tgt := 55) hx hb dX6_addBoat_36 (by decide) (ib_i (by omega) (by omega)) (by decide) (fun c_36 => ?_) (fun c_36 => ?_)
  · refine li_const hx hb dX6_addBoat_55 ?_
    refine li_const hx hb dX6_addBoat_56 ?_
    refine cl_i0 (isC := [0, 1, 2, 3, 4]) (isR := []) (isN := [0, 1, 2, 3, 4]) (wr := []) (wn := cMd cI n L a rn sp cnt (chA 1 0 1) (rowF w op tn pl en kd nb) as ln dr M0 M1 M2 M3 M4) (As := [.int (iI 1), .int (iI 0), .int (iI 1)]) (rest := []) (r := bz (chA 1 0 1 = 0)) (ci := 6) (q0 := 0) ⟨hx, hb, hml, hown, hts⟩ (c_X6_check n L a rn sp cnt th w op tn pl en kd nb as ln dr M0 M1 M2 M3 M4 1 0 1 (by first | decide | exact bz_01 _ | omega) (by first | decide | exact bz_01 _ | omega) (by first | decide | exact bz_01 _ | omega)) (cwV 3 hts gX6_addBoat_X6_check rfl rfl rfl (by decide +kernel) ⟨Nat.le_of_ble_eq_true rfl, Nat.le_of_ble_eq_true rfl⟩) hK hNW hP hD hS hA rfl rfl rfl rfl (by decide) rfl rfl rfl rfl rfl rfl hl.1 rfl (Nat.le_of_ble_eq_true rfl) dX6_addBoat_57 ⟨Nat.zero_le _, Nat.zero_le _⟩ (fun H locs hP hD hS => ?_)
    refine li_top (b := 0) rfl ?_
    refine li_if_ne_f (tgt := 65) hx hb dX6_addBoat_60 (by decide) (by decide) (by decide) ?_
    refine li_const hx hb dX6_addBoat_63 ?_
    exact li_iret () hx hb hr hlocks hK hP hD hS dX6_addBoat_64 hQ (by exfalso; omega) (congrArg iI (by exfalso; omega))
  · refine lv_iload_n hx hb dX6_addBoat_39 rfl (lv_at hl 4 rfl) ?_
    refine li_if_eq (tgt := 51) hx hb dX6_addBoat_40 (by decide) (ib_i (by omega) (by omega)) (fun c_40 => ?_) (fun c_40 => ?_)
    · refine li_const hx hb dX6_addBoat_51 ?_
      refine lv_goto (tgt := 56) hx hb dX6_addBoat_52 (by decide) ?_
      refine li_const hx hb dX6_addBoat_56 ?_
      refine cl_i0 (isC := [0, 1, 2, 3, 4]) (isR := []) (isN := [0, 1, 2, 3, 4]) (wr := []) (wn := cMd cI n L a rn sp cnt (chA 1 1 1) (rowF w op tn pl en kd nb) as ln dr M0 M1 M2 M3 M4) (As := [.int (iI 1), .int (iI 1), .int (iI 1)]) (rest := []) (r := bz (chA 1 1 1 = 0)) (ci := 6) (q0 := 0) ⟨hx, hb, hml, hown, hts⟩ (c_X6_check n L a rn sp cnt th w op tn pl en kd nb as ln dr M0 M1 M2 M3 M4 1 1 1 (by first | decide | exact bz_01 _ | omega) (by first | decide | exact bz_01 _ | omega) (by first | decide | exact bz_01 _ | omega)) (cwV 3 hts gX6_addBoat_X6_check rfl rfl rfl (by decide +kernel) ⟨Nat.le_of_ble_eq_true rfl, Nat.le_of_ble_eq_true rfl⟩) hK hNW hP hD hS hA rfl rfl rfl rfl (by decide) rfl rfl rfl rfl rfl rfl hl.1 rfl (Nat.le_of_ble_eq_true rfl) dX6_addBoat_57 ⟨Nat.zero_le _, Nat.zero_le _⟩ (fun H locs hP hD hS => ?_)
      refine li_top (b := 1) rfl ?_
      refine li_if_ne_t (tgt := 65) hx hb dX6_addBoat_60 (by decide) (by decide) (by decide) ?_
      refine lv_aload_n hx hb dX6_addBoat_65 rfl (lv_at hl 1 rfl) ?_
      refine li_get (ci := 6) (v := .ref M3) (C := RX6) (T := TX6) (N := 11) (q0 := 0) (k := 7) hx hb hts hin_X6 hown hK hP rfl rfl (by decide) hf_16 rfl rfl dX6_addBoat_66 ?_
      refine lv_aload_n hx hb dX6_addBoat_69 rfl (lv_at hl 1 rfl) ?_
      refine li_get (ci := 6) (v := .int (iI cnt)) (C := RX6) (T := TX6) (N := 11) (q0 := 0) (k := 9) hx hb hts hin_X6 hown hK hP rfl rfl (by decide) hf_56 rfl rfl dX6_addBoat_70 ?_
      refine lv_iload_n hx hb dX6_addBoat_73 rfl (lv_at hl 2 rfl) ?_
      refine li_iast (q0 := 3) (t0 := 0) (g := ln) (w2 := cMd cI n L a rn sp cnt 0 (rowF w op tn pl en kd nb) as (upZ ln cnt x) dr M0 M1 M2 M3 M4) hx hb hK hP hD hS rfl rfl (by omega) (by omega) (ib_i (by omega) (by omega)) dX6_addBoat_74 rfl (fun H locs hP hD hS => ?_)
      refine lv_aload_n hx hb dX6_addBoat_75 rfl (lv_at hl 1 rfl) ?_
      refine li_get (ci := 6) (v := .ref M4) (C := RX6) (T := TX6) (N := 11) (q0 := 0) (k := 8) hx hb hts hin_X6 hown hK hP rfl rfl (by decide) hf_19 rfl rfl dX6_addBoat_76 ?_
      refine lv_aload_n hx hb dX6_addBoat_79 rfl (lv_at hl 1 rfl) ?_
      refine li_get (ci := 6) (v := .int (iI cnt)) (C := RX6) (T := TX6) (N := 11) (q0 := 0) (k := 9) hx hb hts hin_X6 hown hK hP rfl rfl (by decide) hf_56 rfl rfl dX6_addBoat_80 ?_
      refine lv_iload_n hx hb dX6_addBoat_83 rfl (lv_at hl 3 rfl) ?_
      refine li_iast (q0 := 4) (t0 := 0) (g := dr) (w2 := cMd cI n L a rn sp cnt 0 (rowF w op tn pl en kd nb) as (upZ ln cnt x) (upZ dr cnt y) M0 M1 M2 M3 M4) hx hb hK hP hD hS rfl rfl (by omega) (by omega) (ib_i (by omega) (by omega)) dX6_addBoat_84 rfl (fun H locs hP hD hS => ?_)
      refine lv_aload_n hx hb dX6_addBoat_85 rfl (lv_at hl 1 rfl) ?_
      refine li_get (ci := 6) (v := .ref M1) (C := RX6) (T := TX6) (N := 11) (q0 := 0) (k := 5) hx hb hts hin_X6 hown hK hP rfl rfl (by decide) hf_9 rfl rfl dX6_addBoat_86 ?_
      refine li_bipush hx hb dX6_addBoat_89 (by decide) ?_
      refine lv_aload_n hx hb dX6_addBoat_91 rfl (lv_at hl 1 rfl) ?_
      refine li_get (ci := 6) (v := .int (iI cnt)) (C := RX6) (T := TX6) (N := 11) (q0 := 0) (k := 9) hx hb hts hin_X6 hown hK hP rfl rfl (by decide) hf_56 rfl rfl dX6_addBoat_92 ?_
      refine li_add hx hb dX6_addBoat_95 ?_
      refine lv_iload_n hx hb dX6_addBoat_96 rfl (lv_at hl 4 rfl) ?_
      refine li_if_eq (tgt := 109) hx hb dX6_addBoat_97 (by decide) (ib_i (by omega) (by omega)) (fun c_97 => ?_) (fun c_97 => ?_)
      · refine li_const hx hb dX6_addBoat_109 ?_
        refine li_iast (q0 := 1) (t0 := 0) (g := (rowF w op tn pl en kd nb)) (w2 := cMd cI n L a rn sp cnt 0 (rowF w op tn (upZ pl cnt 0) en kd nb) as (upZ ln cnt x) (upZ dr cnt y) M0 M1 M2 M3 M4) hx hb hK hP hD hS rfl rfl (by omega) (by omega) (ib_i (by omega) (by omega)) dX6_addBoat_110 (by rw [wr_p (c := cnt) (by omega) (by omega) (by omega)] <;> rfl) (fun H locs hP hD hS => ?_)
        refine lv_aload_n hx hb dX6_addBoat_111 rfl (lv_at hl 1 rfl) ?_
        refine lv_dup hx hb dX6_addBoat_112 rfl ?_
        refine li_get (ci := 6) (v := .int (iI cnt)) (C := RX6) (T := TX6) (N := 11) (q0 := 0) (k := 9) hx hb hts hin_X6 hown hK hP rfl rfl (by decide) hf_56 rfl rfl dX6_addBoat_113 ?_
        refine li_const hx hb dX6_addBoat_116 ?_
        refine li_add hx hb dX6_addBoat_117 ?_
        refine li_put (ci := 6) (v := .int (iI (cnt + 1))) (ty := .int) (C := RX6) (T := TX6) (N := 11) (q0 := 0) (k := 9) (w2 := cMd cI n L a rn sp (cnt + 1) 0 (rowF w op tn (upZ pl cnt 0) en kd nb) as (upZ ln cnt x) (upZ dr cnt y) M0 M1 M2 M3 M4) hx hb hts hin_X6 tyX6_ok nmX6 hown hK hP hD hS rfl rfl (by decide) hf_56 rfl rfl (by decide +kernel) rfl rfl (Nat.le_of_ble_eq_true rfl) dX6_addBoat_118 rfl (fun H locs hP hD hS => ?_)
        refine lv_aload_n hx hb dX6_addBoat_121 rfl (lv_at hl 1 rfl) ?_
        refine li_get (ci := 6) (v := .int (iI (cnt + 1))) (C := RX6) (T := TX6) (N := 11) (q0 := 0) (k := 9) hx hb hts hin_X6 hown hK hP rfl rfl (by decide) hf_56 rfl rfl dX6_addBoat_122 ?_
        refine li_const hx hb dX6_addBoat_125 ?_
        refine li_sub hx hb dX6_addBoat_126 ?_
        exact li_iret () hx hb hr hlocks hK hP hD hS dX6_addBoat_127 hQ (by first | (exfalso; omega) | rw [if_neg (by omega)] | rw [if_pos (by omega)]) (congrArg iI (by omega))
      · refine lv_aload_n hx hb dX6_addBoat_100 rfl (lv_at hl 1 rfl) ?_
        refine li_get (ci := 6) (v := .int (iI n)) (C := RX6) (T := TX6) (N := 11) (q0 := 0) (k := 0) hx hb hts hin_X6 hown hK hP rfl rfl (by decide) hf_26 rfl rfl dX6_addBoat_101 ?_
        refine li_const hx hb dX6_addBoat_104 ?_
        refine li_add hx hb dX6_addBoat_105 ?_
        refine lv_goto (tgt := 110) hx hb dX6_addBoat_106 (by decide) ?_
        refine li_iast (q0 := 1) (t0 := 0) (g := (rowF w op tn pl en kd nb)) (w2 := cMd cI n L a rn sp cnt 0 (rowF w op tn (upZ pl cnt (n + 1)) en kd nb) as (upZ ln cnt x) (upZ dr cnt y) M0 M1 M2 M3 M4) hx hb hK hP hD hS rfl rfl (by omega) (by omega) (ib_i (by omega) (by omega)) dX6_addBoat_110 (by rw [wr_p (c := cnt) (by omega) (by omega) (by omega)] <;> rfl) (fun H locs hP hD hS => ?_)
        refine lv_aload_n hx hb dX6_addBoat_111 rfl (lv_at hl 1 rfl) ?_
        refine lv_dup hx hb dX6_addBoat_112 rfl ?_
        refine li_get (ci := 6) (v := .int (iI cnt)) (C := RX6) (T := TX6) (N := 11) (q0 := 0) (k := 9) hx hb hts hin_X6 hown hK hP rfl rfl (by decide) hf_56 rfl rfl dX6_addBoat_113 ?_
        refine li_const hx hb dX6_addBoat_116 ?_
        refine li_add hx hb dX6_addBoat_117 ?_
        refine li_put (ci := 6) (v := .int (iI (cnt + 1))) (ty := .int) (C := RX6) (T := TX6) (N := 11) (q0 := 0) (k := 9) (w2 := cMd cI n L a rn sp (cnt + 1) 0 (rowF w op tn (upZ pl cnt (n + 1)) en kd nb) as (upZ ln cnt x) (upZ dr cnt y) M0 M1 M2 M3 M4) hx hb hts hin_X6 tyX6_ok nmX6 hown hK hP hD hS rfl rfl (by decide) hf_56 rfl rfl (by decide +kernel) rfl rfl (Nat.le_of_ble_eq_true rfl) dX6_addBoat_118 rfl (fun H locs hP hD hS => ?_)
        refine lv_aload_n hx hb dX6_addBoat_121 rfl (lv_at hl 1 rfl) ?_
        refine li_get (ci := 6) (v := .int (iI (cnt + 1))) (C := RX6) (T := TX6) (N := 11) (q0 := 0) (k := 9) hx hb hts hin_X6 hown hK hP rfl rfl (by decide) hf_56 rfl rfl dX6_addBoat_122 ?_
        refine li_const hx hb dX6_addBoat_125 ?_
        refine li_sub hx hb dX6_addBoat_126 ?_
        exact li_iret () hx hb hr hlocks hK hP hD hS dX6_addBoat_127 hQ (by first | (exfalso; omega) | rw [if_neg (by omega)] | rw [if_pos (by omega)]) (congrArg iI (by omega))
    · refine lv_aload_n hx hb dX6_addBoat_43 rfl (lv_at hl 1 rfl) ?_
      refine cl_i0 (isC := [0, 1, 2, 3, 4]) (isR := []) (isN := [0, 1, 2, 3, 4]) (wr := []) (wn := cMd cI n L a rn sp cnt th (rowF w op tn pl en kd nb) as ln dr M0 M1 M2 M3 M4) (As := []) (rest := [.int (iI 1), .ref M0]) (r := w.1 / a) (ci := 6) (q0 := 0) ⟨hx, hb, hml, hown, hts⟩ (c_X6_depth n L a rn sp cnt th w op tn pl en kd nb as ln dr M0 M1 M2 M3 M4 (by first | assumption | omega) (by first | assumption | omega) (by first | assumption | omega) (by first | assumption | omega)) (cwV 0 hts gX6_addBoat_X6_depth rfl rfl rfl (by decide +kernel) ⟨Nat.le_of_ble_eq_true rfl, Nat.le_of_ble_eq_true rfl⟩) hK hNW hP hD hS hA rfl rfl rfl rfl (by decide) rfl rfl rfl rfl rfl rfl hl.1 rfl (Nat.le_of_ble_eq_true rfl) dX6_addBoat_44 ⟨Nat.zero_le _, Nat.zero_le _⟩ (fun H locs hP hD hS => ?_)
      refine lv_iload_n hx hb dX6_addBoat_47 rfl (lv_at hl 3 rfl) ?_
      refine li_icmp_lt (tgt := 55) hx hb dX6_addBoat_48 (by decide) (ib_i (by omega) (by omega)) (ib_i (by omega) (by omega)) (fun c_48 => ?_) (fun c_48 => ?_)
      · refine li_const hx hb dX6_addBoat_55 ?_
        refine li_const hx hb dX6_addBoat_56 ?_
        refine cl_i0 (isC := [0, 1, 2, 3, 4]) (isR := []) (isN := [0, 1, 2, 3, 4]) (wr := []) (wn := cMd cI n L a rn sp cnt (chA 1 0 1) (rowF w op tn pl en kd nb) as ln dr M0 M1 M2 M3 M4) (As := [.int (iI 1), .int (iI 0), .int (iI 1)]) (rest := []) (r := bz (chA 1 0 1 = 0)) (ci := 6) (q0 := 0) ⟨hx, hb, hml, hown, hts⟩ (c_X6_check n L a rn sp cnt th w op tn pl en kd nb as ln dr M0 M1 M2 M3 M4 1 0 1 (by first | decide | exact bz_01 _ | omega) (by first | decide | exact bz_01 _ | omega) (by first | decide | exact bz_01 _ | omega)) (cwV 3 hts gX6_addBoat_X6_check rfl rfl rfl (by decide +kernel) ⟨Nat.le_of_ble_eq_true rfl, Nat.le_of_ble_eq_true rfl⟩) hK hNW hP hD hS hA rfl rfl rfl rfl (by decide) rfl rfl rfl rfl rfl rfl hl.1 rfl (Nat.le_of_ble_eq_true rfl) dX6_addBoat_57 ⟨Nat.zero_le _, Nat.zero_le _⟩ (fun H locs hP hD hS => ?_)
        refine li_top (b := 0) rfl ?_
        refine li_if_ne_f (tgt := 65) hx hb dX6_addBoat_60 (by decide) (by decide) (by decide) ?_
        refine li_const hx hb dX6_addBoat_63 ?_
        exact li_iret () hx hb hr hlocks hK hP hD hS dX6_addBoat_64 hQ (by exfalso; omega) (congrArg iI (by exfalso; omega))
      · refine li_const hx hb dX6_addBoat_51 ?_
        refine lv_goto (tgt := 56) hx hb dX6_addBoat_52 (by decide) ?_
        refine li_const hx hb dX6_addBoat_56 ?_
        refine cl_i0 (isC := [0, 1, 2, 3, 4]) (isR := []) (isN := [0, 1, 2, 3, 4]) (wr := []) (wn := cMd cI n L a rn sp cnt (chA 1 1 1) (rowF w op tn pl en kd nb) as ln dr M0 M1 M2 M3 M4) (As := [.int (iI 1), .int (iI 1), .int (iI 1)]) (rest := []) (r := bz (chA 1 1 1 = 0)) (ci := 6) (q0 := 0) ⟨hx, hb, hml, hown, hts⟩ (c_X6_check n L a rn sp cnt th w op tn pl en kd nb as ln dr M0 M1 M2 M3 M4 1 1 1 (by first | decide | exact bz_01 _ | omega) (by first | decide | exact bz_01 _ | omega) (by first | decide | exact bz_01 _ | omega)) (cwV 3 hts gX6_addBoat_X6_check rfl rfl rfl (by decide +kernel) ⟨Nat.le_of_ble_eq_true rfl, Nat.le_of_ble_eq_true rfl⟩) hK hNW hP hD hS hA rfl rfl rfl rfl (by decide) rfl rfl rfl rfl rfl rfl hl.1 rfl (Nat.le_of_ble_eq_true rfl) dX6_addBoat_57 ⟨Nat.zero_le _, Nat.zero_le _⟩ (fun H locs hP hD hS => ?_)
        refine li_top (b := 1) rfl ?_
        refine li_if_ne_t (tgt := 65) hx hb dX6_addBoat_60 (by decide) (by decide) (by decide) ?_
        refine lv_aload_n hx hb dX6_addBoat_65 rfl (lv_at hl 1 rfl) ?_
        refine li_get (ci := 6) (v := .ref M3) (C := RX6) (T := TX6) (N := 11) (q0 := 0) (k := 7) hx hb hts hin_X6 hown hK hP rfl rfl (by decide) hf_16 rfl rfl dX6_addBoat_66 ?_
        refine lv_aload_n hx hb dX6_addBoat_69 rfl (lv_at hl 1 rfl) ?_
        refine li_get (ci := 6) (v := .int (iI cnt)) (C := RX6) (T := TX6) (N := 11) (q0 := 0) (k := 9) hx hb hts hin_X6 hown hK hP rfl rfl (by decide) hf_56 rfl rfl dX6_addBoat_70 ?_
        refine lv_iload_n hx hb dX6_addBoat_73 rfl (lv_at hl 2 rfl) ?_
        refine li_iast (q0 := 3) (t0 := 0) (g := ln) (w2 := cMd cI n L a rn sp cnt 0 (rowF w op tn pl en kd nb) as (upZ ln cnt x) dr M0 M1 M2 M3 M4) hx hb hK hP hD hS rfl rfl (by omega) (by omega) (ib_i (by omega) (by omega)) dX6_addBoat_74 rfl (fun H locs hP hD hS => ?_)
        refine lv_aload_n hx hb dX6_addBoat_75 rfl (lv_at hl 1 rfl) ?_
        refine li_get (ci := 6) (v := .ref M4) (C := RX6) (T := TX6) (N := 11) (q0 := 0) (k := 8) hx hb hts hin_X6 hown hK hP rfl rfl (by decide) hf_19 rfl rfl dX6_addBoat_76 ?_
        refine lv_aload_n hx hb dX6_addBoat_79 rfl (lv_at hl 1 rfl) ?_
        refine li_get (ci := 6) (v := .int (iI cnt)) (C := RX6) (T := TX6) (N := 11) (q0 := 0) (k := 9) hx hb hts hin_X6 hown hK hP rfl rfl (by decide) hf_56 rfl rfl dX6_addBoat_80 ?_
        refine lv_iload_n hx hb dX6_addBoat_83 rfl (lv_at hl 3 rfl) ?_
        refine li_iast (q0 := 4) (t0 := 0) (g := dr) (w2 := cMd cI n L a rn sp cnt 0 (rowF w op tn pl en kd nb) as (upZ ln cnt x) (upZ dr cnt y) M0 M1 M2 M3 M4) hx hb hK hP hD hS rfl rfl (by omega) (by omega) (ib_i (by omega) (by omega)) dX6_addBoat_84 rfl (fun H locs hP hD hS => ?_)
        refine lv_aload_n hx hb dX6_addBoat_85 rfl (lv_at hl 1 rfl) ?_
        refine li_get (ci := 6) (v := .ref M1) (C := RX6) (T := TX6) (N := 11) (q0 := 0) (k := 5) hx hb hts hin_X6 hown hK hP rfl rfl (by decide) hf_9 rfl rfl dX6_addBoat_86 ?_
        refine li_bipush hx hb dX6_addBoat_89 (by decide) ?_
        refine lv_aload_n hx hb dX6_addBoat_91 rfl (lv_at hl 1 rfl) ?_
        refine li_get (ci := 6) (v := .int (iI cnt)) (C := RX6) (T := TX6) (N := 11) (q0 := 0) (k := 9) hx hb hts hin_X6 hown hK hP rfl rfl (by decide) hf_56 rfl rfl dX6_addBoat_92 ?_
        refine li_add hx hb dX6_addBoat_95 ?_
        refine lv_iload_n hx hb dX6_addBoat_96 rfl (lv_at hl 4 rfl) ?_
        refine li_if_eq (tgt := 109) hx hb dX6_addBoat_97 (by decide) (ib_i (by omega) (by omega)) (fun c_97 => ?_) (fun c_97 => ?_)
        · refine li_const hx hb dX6_addBoat_109 ?_
          refine li_iast (q0 := 1) (t0 := 0) (g := (rowF w op tn pl en kd nb)) (w2 := cMd cI n L a rn sp cnt 0 (rowF w op tn (upZ pl cnt 0) en kd nb) as (upZ ln cnt x) (upZ dr cnt y) M0 M1 M2 M3 M4) hx hb hK hP hD hS rfl rfl (by omega) (by omega) (ib_i (by omega) (by omega)) dX6_addBoat_110 (by rw [wr_p (c := cnt) (by omega) (by omega) (by omega)] <;> rfl) (fun H locs hP hD hS => ?_)
          refine lv_aload_n hx hb dX6_addBoat_111 rfl (lv_at hl 1 rfl) ?_
          refine lv_dup hx hb dX6_addBoat_112 rfl ?_
          refine li_get (ci := 6) (v := .int (iI cnt)) (C := RX6) (T := TX6) (N := 11) (q0 := 0) (k := 9) hx hb hts hin_X6 hown hK hP rfl rfl (by decide) hf_56 rfl rfl dX6_addBoat_113 ?_
          refine li_const hx hb dX6_addBoat_116 ?_
          refine li_add hx hb dX6_addBoat_117 ?_
          refine li_put (ci := 6) (v := .int (iI (cnt + 1))) (ty := .int) (C := RX6) (T := TX6) (N := 11) (q0 := 0) (k := 9) (w2 := cMd cI n L a rn sp (cnt + 1) 0 (rowF w op tn (upZ pl cnt 0) en kd nb) as (upZ ln cnt x) (upZ dr cnt y) M0 M1 M2 M3 M4) hx hb hts hin_X6 tyX6_ok nmX6 hown hK hP hD hS rfl rfl (by decide) hf_56 rfl rfl (by decide +kernel) rfl rfl (Nat.le_of_ble_eq_true rfl) dX6_addBoat_118 rfl (fun H locs hP hD hS => ?_)
          refine lv_aload_n hx hb dX6_addBoat_121 rfl (lv_at hl 1 rfl) ?_
          refine li_get (ci := 6) (v := .int (iI (cnt + 1))) (C := RX6) (T := TX6) (N := 11) (q0 := 0) (k := 9) hx hb hts hin_X6 hown hK hP rfl rfl (by decide) hf_56 rfl rfl dX6_addBoat_122 ?_
          refine li_const hx hb dX6_addBoat_125 ?_
          refine li_sub hx hb dX6_addBoat_126 ?_
          exact li_iret () hx hb hr hlocks hK hP hD hS dX6_addBoat_127 hQ (by first | (exfalso; omega) | rw [if_neg (by omega)] | rw [if_pos (by omega)]) (congrArg iI (by omega))
        · refine lv_aload_n hx hb dX6_addBoat_100 rfl (lv_at hl 1 rfl) ?_
          refine li_get (ci := 6) (v := .int (iI n)) (C := RX6) (T := TX6) (N := 11) (q0 := 0) (k := 0) hx hb hts hin_X6 hown hK hP rfl rfl (by decide) hf_26 rfl rfl dX6_addBoat_101 ?_
          refine li_const hx hb dX6_addBoat_104 ?_
          refine li_add hx hb dX6_addBoat_105 ?_
          refine lv_goto (tgt := 110) hx hb dX6_addBoat_106 (by decide) ?_
          refine li_iast (q0 := 1) (t0 := 0) (g := (rowF w op tn pl en kd nb)) (w2 := cMd cI n L a rn sp cnt 0 (rowF w op tn (upZ pl cnt (n + 1)) en kd nb) as (upZ ln cnt x) (upZ dr cnt y) M0 M1 M2 M3 M4) hx hb hK hP hD hS rfl rfl (by omega) (by omega) (ib_i (by omega) (by omega)) dX6_addBoat_110 (by rw [wr_p (c := cnt) (by omega) (by omega) (by omega)] <;> rfl) (fun H locs hP hD hS => ?_)
          refine lv_aload_n hx hb dX6_addBoat_111 rfl (lv_at hl 1 rfl) ?_
          refine lv_dup hx hb dX6_addBoat_112 rfl ?_
          refine li_get (ci := 6) (v := .int (iI cnt)) (C := RX6) (T := TX6) (N := 11) (q0 := 0) (k := 9) hx hb hts hin_X6 hown hK hP rfl rfl (by decide) hf_56 rfl rfl dX6_addBoat_113 ?_
          refine li_const hx hb dX6_addBoat_116 ?_
          refine li_add hx hb dX6_addBoat_117 ?_
          refine li_put (ci := 6) (v := .int (iI (cnt + 1))) (ty := .int) (C := RX6) (T := TX6) (N := 11) (q0 := 0) (k := 9) (w2 := cMd cI n L a rn sp (cnt + 1) 0 (rowF w op tn (upZ pl cnt (n + 1)) en kd nb) as (upZ ln cnt x) (upZ dr cnt y) M0 M1 M2 M3 M4) hx hb hts hin_X6 tyX6_ok nmX6 hown hK hP hD hS rfl rfl (by decide) hf_56 rfl rfl (by decide +kernel) rfl rfl (Nat.le_of_ble_eq_true rfl) dX6_addBoat_118 rfl (fun H locs hP hD hS => ?_)
          refine lv_aload_n hx hb dX6_addBoat_121 rfl (lv_at hl 1 rfl) ?_
          refine li_get (ci := 6) (v := .int (iI (cnt + 1))) (C := RX6) (T := TX6) (N := 11) (q0 := 0) (k := 9) hx hb hts hin_X6 hown hK hP rfl rfl (by decide) hf_56 rfl rfl dX6_addBoat_122 ?_
          refine li_const hx hb dX6_addBoat_125 ?_
          refine li_sub hx hb dX6_addBoat_126 ?_
          exact li_iret () hx hb hr hlocks hK hP hD hS dX6_addBoat_127 hQ (by first | (exfalso; omega) | rw [if_neg (by omega)] | rw [if_pos (by omega)]) (congrArg iI (by omega))

set_option maxRecDepth 100000 in
set_option maxHeartbeats 4000000 in
theorem c_X6_addBoat_no1 {l : Launch} {D : va_G} {cI cZ cJ : ClassId} (n : Int) (L : Int) (a : Int) (rn : Int) (sp : Int) (cnt : Int) (th : Int) (w : Wt) (op : Int → Int) (tn : Int → Int) (pl : Int → Int) (en : Int) (kd : Int → Int) (nb : Int → Int) (as : Int → Int) (ln : Int → Int) (dr : Int → Int) (M0 M1 M2 M3 M4 : Nat) (x : Int) (y : Int) (z : Int) (hn : 1 ≤ n ∧ n ≤ 6) (hL : 5 ≤ L ∧ L ≤ 40) (ha : 1 ≤ a ∧ a ≤ 50) (hw : WI n L a w) (hcnt : 0 ≤ cnt ∧ cnt ≤ 10) (hz9 : z = 0 ∨ z = 1) (i_x : -2147483648 ≤ x ∧ x < 2147483648) (i_y : -2147483648 ≤ y ∧ y < 2147483648) (hv1 : ¬ ((5 ≤ x ∧ x ≤ 60) ∧ (1 ≤ y ∧ y ≤ 19))) : Di l yX6_addBoat wsX6_addBoat 25 [.ref M0, .int (iI x), .int (iI y), .int (iI z)] D (ty3 cI cZ cJ) (cMd cI n L a rn sp cnt th (rowF w op tn pl en kd nb) as ln dr M0 M1 M2 M3 M4) (0) (cMd cI n L a rn sp cnt 1 (rowF w op tn pl en kd nb) as ln dr M0 M1 M2 M3 M4) := by
  refine ct_i (plainFor_of_name (by decide)) rfl (Nat.le_of_ble_eq_true rfl) ?_
  intro p e s mI args below meth c_0 ls A hx hb hr hml hts hown hlocks hin hA hP hK hD hNW hS hl Q hQ
  have hown : s.vm.findClass RX6 = some mI.cls := hown
  have hl : lv_has ls 5 [(0, .ref M0), (1, .int (iI x)), (2, .int (iI y)), (3, .int (iI z))] := hl
  have hin_X6 : ∀ w ∈ wsX60, w ∈ wsX6_addBoat := by decide +kernel
  have hf_16 := hts (.fieldLink RX6 16 "LockStaircaseModel" "lengths" "[I") (by decide +kernel)
  have hf_19 := hts (.fieldLink RX6 19 "LockStaircaseModel" "draughts" "[I") (by decide +kernel)
  have hf_26 := hts (.fieldLink RX6 26 "LockStaircaseModel" "chambers" "I") (by decide +kernel)
  have hf_56 := hts (.fieldLink RX6 56 "LockStaircaseModel" "boats" "I") (by decide +kernel)
  have hf_9 := hts (.fieldLink RX6 9 "LockStaircaseModel" "row" "[I") (by decide +kernel)
  have hw1 : -1000 ≤ w.1 ∧ w.1 ≤ 20 * a := hw.1
  have d1 := dv_b ha hw1.1 hw1.2
  refine lv_iload_n hx hb dX6_addBoat_0 rfl (lv_at hl 1 rfl) ?_
  refine li_const hx hb dX6_addBoat_1 ?_
  refine li_bipush hx hb dX6_addBoat_2 (by decide) ?_
  refine cs_i0 (isC := []) (isR := [0, 1, 2, 3, 4]) (isN := [0, 1, 2, 3, 4]) (wr := cMd cI n L a rn sp cnt th (rowF w op tn pl en kd nb) as ln dr M0 M1 M2 M3 M4) (wn := cMd cI n L a rn sp cnt th (rowF w op tn pl en kd nb) as ln dr M0 M1 M2 M3 M4) (As := [.int (iI x), .int (iI 5), .int (iI 60)]) (rest := []) (r := bz (5 ≤ x ∧ x ≤ 60)) ⟨hx, hb, hml, hown, hts⟩ (c_X6_isWithin x 5 60 (by first | assumption | omega) (by first | assumption | omega) (by first | assumption | omega)) (va_cwS 3 hts gX6_addBoat_X6_isWithin rfl rfl rfl (by decide +kernel) ⟨Nat.le_of_ble_eq_true rfl, Nat.le_of_ble_eq_true rfl⟩) hK hNW hP hD hS hA rfl rfl rfl rfl (by decide) rfl rfl rfl hl.1 rfl (Nat.le_of_ble_eq_true rfl) dX6_addBoat_4 ⟨Nat.zero_le _, Nat.zero_le _⟩ (fun H locs hP hD hS => ?_)
  refine li_ifb_eq (tgt := 24) hx hb dX6_addBoat_7 (by decide) (fun c_7 => ?_) (fun c_7 => ?_)
  · refine li_const hx hb dX6_addBoat_24 ?_
    refine lv_istore (lv' := [(4, .int (iI 0)), (0, .ref M0), (1, .int (iI x)), (2, .int (iI y)), (3, .int (iI z))]) hx hb dX6_addBoat_25 hl (by decide) rfl (fun ls hl => ?_)
    refine lv_aload_n hx hb dX6_addBoat_27 rfl (lv_at hl 1 rfl) ?_
    refine lv_iload hx hb dX6_addBoat_28 (lv_at hl 0 rfl) ?_
    refine lv_aload_n hx hb dX6_addBoat_30 rfl (lv_at hl 1 rfl) ?_
    refine li_get (ci := 6) (v := .int (iI cnt)) (C := RX6) (T := TX6) (N := 11) (q0 := 0) (k := 9) hx hb hts hin_X6 hown hK hP rfl rfl (by decide) hf_56 rfl rfl dX6_addBoat_31 ?_
    refine li_bipush hx hb dX6_addBoat_34 (by decide) ?_
    refine li_icmp_ge (tgt := 55) hx hb dX6_addBoat_36 (by decide) (ib_i (by omega) (by omega)) (by decide) (fun c_36 => ?_) (fun c_36 => ?_)
    · refine li_const hx hb dX6_addBoat_55 ?_
      refine li_const hx hb dX6_addBoat_56 ?_
      refine cl_i0 (isC := [0, 1, 2, 3, 4]) (isR := []) (isN := [0, 1, 2, 3, 4]) (wr := []) (wn := cMd cI n L a rn sp cnt (chA 0 0 1) (rowF w op tn pl en kd nb) as ln dr M0 M1 M2 M3 M4) (As := [.int (iI 0), .int (iI 0), .int (iI 1)]) (rest := []) (r := bz (chA 0 0 1 = 0)) (ci := 6) (q0 := 0) ⟨hx, hb, hml, hown, hts⟩ (c_X6_check n L a rn sp cnt th w op tn pl en kd nb as ln dr M0 M1 M2 M3 M4 0 0 1 (by first | decide | exact bz_01 _ | omega) (by first | decide | exact bz_01 _ | omega) (by first | decide | exact bz_01 _ | omega)) (cwV 3 hts gX6_addBoat_X6_check rfl rfl rfl (by decide +kernel) ⟨Nat.le_of_ble_eq_true rfl, Nat.le_of_ble_eq_true rfl⟩) hK hNW hP hD hS hA rfl rfl rfl rfl (by decide) rfl rfl rfl rfl rfl rfl hl.1 rfl (Nat.le_of_ble_eq_true rfl) dX6_addBoat_57 ⟨Nat.zero_le _, Nat.zero_le _⟩ (fun H locs hP hD hS => ?_)
      refine li_top (b := 0) rfl ?_
      refine li_if_ne_f (tgt := 65) hx hb dX6_addBoat_60 (by decide) (by decide) (by decide) ?_
      refine li_const hx hb dX6_addBoat_63 ?_
      exact li_iret () hx hb hr hlocks hK hP hD hS dX6_addBoat_64 hQ (by first | rfl | (exfalso; omega)) (congrArg iI (by first | rfl | (exfalso; omega)))
    · refine lv_iload_n hx hb dX6_addBoat_39 rfl (lv_at hl 4 rfl) ?_
      refine li_if_eq (tgt := 51) hx hb dX6_addBoat_40 (by decide) (ib_i (by omega) (by omega)) (fun c_40 => ?_) (fun c_40 => ?_)
      · refine li_const hx hb dX6_addBoat_51 ?_
        refine lv_goto (tgt := 56) hx hb dX6_addBoat_52 (by decide) ?_
        refine li_const hx hb dX6_addBoat_56 ?_
        refine cl_i0 (isC := [0, 1, 2, 3, 4]) (isR := []) (isN := [0, 1, 2, 3, 4]) (wr := []) (wn := cMd cI n L a rn sp cnt (chA 0 1 1) (rowF w op tn pl en kd nb) as ln dr M0 M1 M2 M3 M4) (As := [.int (iI 0), .int (iI 1), .int (iI 1)]) (rest := []) (r := bz (chA 0 1 1 = 0)) (ci := 6) (q0 := 0) ⟨hx, hb, hml, hown, hts⟩ (c_X6_check n L a rn sp cnt th w op tn pl en kd nb as ln dr M0 M1 M2 M3 M4 0 1 1 (by first | decide | exact bz_01 _ | omega) (by first | decide | exact bz_01 _ | omega) (by first | decide | exact bz_01 _ | omega)) (cwV 3 hts gX6_addBoat_X6_check rfl rfl rfl (by decide +kernel) ⟨Nat.le_of_ble_eq_true rfl, Nat.le_of_ble_eq_true rfl⟩) hK hNW hP hD hS hA rfl rfl rfl rfl (by decide) rfl rfl rfl rfl rfl rfl hl.1 rfl (Nat.le_of_ble_eq_true rfl) dX6_addBoat_57 ⟨Nat.zero_le _, Nat.zero_le _⟩ (fun H locs hP hD hS => ?_)
        refine li_top (b := 0) rfl ?_
        refine li_if_ne_f (tgt := 65) hx hb dX6_addBoat_60 (by decide) (by decide) (by decide) ?_
        refine li_const hx hb dX6_addBoat_63 ?_
        exact li_iret () hx hb hr hlocks hK hP hD hS dX6_addBoat_64 hQ (by first | rfl | (exfalso; omega)) (congrArg iI (by first | rfl | (exfalso; omega)))
      · refine lv_aload_n hx hb dX6_addBoat_43 rfl (lv_at hl 1 rfl) ?_
        refine cl_i0 (isC := [0, 1, 2, 3, 4]) (isR := []) (isN := [0, 1, 2, 3, 4]) (wr := []) (wn := cMd cI n L a rn sp cnt th (rowF w op tn pl en kd nb) as ln dr M0 M1 M2 M3 M4) (As := []) (rest := [.int (iI 0), .ref M0]) (r := w.1 / a) (ci := 6) (q0 := 0) ⟨hx, hb, hml, hown, hts⟩ (c_X6_depth n L a rn sp cnt th w op tn pl en kd nb as ln dr M0 M1 M2 M3 M4 (by first | assumption | omega) (by first | assumption | omega) (by first | assumption | omega) (by first | assumption | omega)) (cwV 0 hts gX6_addBoat_X6_depth rfl rfl rfl (by decide +kernel) ⟨Nat.le_of_ble_eq_true rfl, Nat.le_of_ble_eq_true rfl⟩) hK hNW hP hD hS hA rfl rfl rfl rfl (by decide) rfl rfl rfl rfl rfl rfl hl.1 rfl (Nat.le_of_ble_eq_true rfl) dX6_addBoat_44 ⟨Nat.zero_le _, Nat.zero_le _⟩ (fun H locs hP hD hS => ?_)
        refine lv_iload_n hx hb dX6_addBoat_47 rfl (lv_at hl 3 rfl) ?_
        refine li_icmp_lt (tgt := 55) hx hb dX6_addBoat_48 (by decide) (ib_i (by omega) (by omega)) (ib_i (by omega) (by omega)) (fun c_48 => ?_) (fun c_48 => ?_)
        · refine li_const hx hb dX6_addBoat_55 ?_
          refine li_const hx hb dX6_addBoat_56 ?_
          refine cl_i0 (isC := [0, 1, 2, 3, 4]) (isR := []) (isN := [0, 1, 2, 3, 4]) (wr := []) (wn := cMd cI n L a rn sp cnt (chA 0 0 1) (rowF w op tn pl en kd nb) as ln dr M0 M1 M2 M3 M4) (As := [.int (iI 0), .int (iI 0), .int (iI 1)]) (rest := []) (r := bz (chA 0 0 1 = 0)) (ci := 6) (q0 := 0) ⟨hx, hb, hml, hown, hts⟩ (c_X6_check n L a rn sp cnt th w op tn pl en kd nb as ln dr M0 M1 M2 M3 M4 0 0 1 (by first | decide | exact bz_01 _ | omega) (by first | decide | exact bz_01 _ | omega) (by first | decide | exact bz_01 _ | omega)) (cwV 3 hts gX6_addBoat_X6_check rfl rfl rfl (by decide +kernel) ⟨Nat.le_of_ble_eq_true rfl, Nat.le_of_ble_eq_true rfl⟩) hK hNW hP hD hS hA rfl rfl rfl rfl (by decide) rfl rfl rfl rfl rfl rfl hl.1 rfl (Nat.le_of_ble_eq_true rfl) dX6_addBoat_57 ⟨Nat.zero_le _, Nat.zero_le _⟩ (fun H locs hP hD hS => ?_)
          refine li_top (b := 0) rfl ?_
          refine li_if_ne_f (tgt := 65) hx hb dX6_addBoat_60 (by decide) (by decide) (by decide) ?_
          refine li_const hx hb dX6_addBoat_63 ?_
          exact li_iret () hx hb hr hlocks hK hP hD hS dX6_addBoat_64 hQ (by first | rfl | (exfalso; omega)) (congrArg iI (by first | rfl | (exfalso; omega)))
        · refine li_const hx hb dX6_addBoat_51 ?_
          refine lv_goto (tgt := 56) hx hb dX6_addBoat_52 (by decide) ?_
          refine li_const hx hb dX6_addBoat_56 ?_
          refine cl_i0 (isC := [0, 1, 2, 3, 4]) (isR := []) (isN := [0, 1, 2, 3, 4]) (wr := []) (wn := cMd cI n L a rn sp cnt (chA 0 1 1) (rowF w op tn pl en kd nb) as ln dr M0 M1 M2 M3 M4) (As := [.int (iI 0), .int (iI 1), .int (iI 1)]) (rest := []) (r := bz (chA 0 1 1 = 0)) (ci := 6) (q0 := 0) ⟨hx, hb, hml, hown, hts⟩ (c_X6_check n L a rn sp cnt th w op tn pl en kd nb as ln dr M0 M1 M2 M3 M4 0 1 1 (by first | decide | exact bz_01 _ | omega) (by first | decide | exact bz_01 _ | omega) (by first | decide | exact bz_01 _ | omega)) (cwV 3 hts gX6_addBoat_X6_check rfl rfl rfl (by decide +kernel) ⟨Nat.le_of_ble_eq_true rfl, Nat.le_of_ble_eq_true rfl⟩) hK hNW hP hD hS hA rfl rfl rfl rfl (by decide) rfl rfl rfl rfl rfl rfl hl.1 rfl (Nat.le_of_ble_eq_true rfl) dX6_addBoat_57 ⟨Nat.zero_le _, Nat.zero_le _⟩ (fun H locs hP hD hS => ?_)
          refine li_top (b := 0) rfl ?_
          refine li_if_ne_f (tgt := 65) hx hb dX6_addBoat_60 (by decide) (by decide) (by decide) ?_
          refine li_const hx hb dX6_addBoat_63 ?_
          exact li_iret () hx hb hr hlocks hK hP hD hS dX6_addBoat_64 hQ (by first | rfl | (exfalso; omega)) (congrArg iI (by first | rfl | (exfalso; omega)))
  · refine lv_iload_n hx hb dX6_addBoat_10 rfl (lv_at hl 2 rfl) ?_
    refine li_const hx hb dX6_addBoat_11 ?_
    refine li_bipush hx hb dX6_addBoat_12 (by decide) ?_
    refine cs_i0 (isC := []) (isR := [0, 1, 2, 3, 4]) (isN := [0, 1, 2, 3, 4]) (wr := cMd cI n L a rn sp cnt th (rowF w op tn pl en kd nb) as ln dr M0 M1 M2 M3 M4) (wn := cMd cI n L a rn sp cnt th (rowF w op tn pl en kd nb) as ln dr M0 M1 M2 M3 M4) (As := [.int (iI y), .int (iI 1), .int (iI 19)]) (rest := []) (r := bz (1 ≤ y ∧ y ≤ 19)) ⟨hx, hb, hml, hown, hts⟩ (c_X6_isWithin y 1 19 (by first | assumption | omega) (by first | assumption | omega) (by first | assumption | omega)) (va_cwS 3 hts gX6_addBoat_X6_isWithin rfl rfl rfl (by decide +kernel) ⟨Nat.le_of_ble_eq_true rfl, Nat.le_of_ble_eq_true rfl⟩) hK hNW hP hD hS hA rfl rfl rfl rfl (by decide) rfl rfl rfl hl.1 rfl (Nat.le_of_ble_eq_true rfl) dX6_addBoat_14 ⟨Nat.zero_le _, Nat.zero_le _⟩ (fun H locs hP hD hS => ?_)
    refine li_ifb_eq (tgt := 24) hx hb dX6_addBoat_17 (by decide) (fun c_17 => ?_) (fun c_17 => ?_)
    · refine li_const hx hb dX6_addBoat_24 ?_
      refine lv_istore (lv' := [(4, .int (iI 0)), (0, .ref M0), (1, .int (iI x)), (2, .int (iI y)), (3, .int (iI z))]) hx hb dX6_addBoat_25 hl (by decide) rfl (fun ls hl => ?_)
      refine lv_aload_n hx hb dX6_addBoat_27 rfl (lv_at hl 1 rfl) ?_
      refine lv_iload hx hb dX6_addBoat_28 (lv_at hl 0 rfl) ?_
      refine lv_aload_n hx hb dX6_addBoat_30 rfl (lv_at hl 1 rfl) ?_
      refine li_get (ci := 6) (v := .int (iI cnt)) (C := RX6) (T := TX6) (N := 11) (q0 := 0) (k := 9) hx hb hts hin_X6 hown hK hP rfl rfl (by decide) hf_56 rfl rfl dX6_addBoat_31 ?_
      refine li_bipush hx hb dX6_addBoat_34 (by decide) ?_
      refine li_icmp_ge (tgt := 55) hx hb dX6_addBoat_36 (by decide) (ib_i (by omega) (by omega)) (by decide) (fun c_36 => ?_) (fun c_36 => ?_)
      · refine li_const hx hb dX6_addBoat_55 ?_
        refine li_const hx hb dX6_addBoat_56 ?_
        refine cl_i0 (isC := [0, 1, 2, 3, 4]) (isR := []) (isN := [0, 1, 2, 3, 4]) (wr := []) (wn := cMd cI n L a rn sp cnt (chA 0 0 1) (rowF w op tn pl en kd nb) as ln dr M0 M1 M2 M3 M4) (As := [.int (iI 0), .int (iI 0), .int (iI 1)]) (rest := []) (r := bz (chA 0 0 1 = 0)) (ci := 6) (q0 := 0) ⟨hx, hb, hml, hown, hts⟩ (c_X6_check n L a rn sp cnt th w op tn pl en kd nb as ln dr M0 M1 M2 M3 M4 0 0 1 (by first | decide | exact bz_01 _ | omega) (by first | decide | exact bz_01 _ | omega) (by first | decide | exact bz_01 _ | omega)) (cwV 3 hts gX6_addBoat_X6_check rfl rfl rfl (by decide +kernel) ⟨Nat.le_of_ble_eq_true rfl, Nat.le_of_ble_eq_true rfl⟩) hK hNW hP hD hS hA rfl rfl rfl rfl (by decide) rfl rfl rfl rfl rfl rfl hl.1 rfl (Nat.le_of_ble_eq_true rfl) dX6_addBoat_57 ⟨Nat.zero_le _, Nat.zero_le _⟩ (fun H locs hP hD hS => ?_)
        refine li_top (b := 0) rfl ?_
        refine li_if_ne_f (tgt := 65) hx hb dX6_addBoat_60 (by decide) (by decide) (by decide) ?_
        refine li_const hx hb dX6_addBoat_63 ?_
        exact li_iret () hx hb hr hlocks hK hP hD hS dX6_addBoat_64 hQ (by first | rfl | (exfalso; omega)) (congrArg iI (by first | rfl | (exfalso; omega)))
      · refine lv_iload_n hx hb dX6_addBoat_39 rfl (lv_at hl 4 rfl) ?_
        refine li_if_eq (tgt := 51) hx hb dX6_addBoat_40 (by decide) (ib_i (by omega) (by omega)) (fun c_40 => ?_) (fun c_40 => ?_)
        · refine li_const hx hb dX6_addBoat_51 ?_
          refine lv_goto (tgt := 56) hx hb dX6_addBoat_52 (by decide) ?_
          refine li_const hx hb dX6_addBoat_56 ?_
          refine cl_i0 (isC := [0, 1, 2, 3, 4]) (isR := []) (isN := [0, 1, 2, 3, 4]) (wr := []) (wn := cMd cI n L a rn sp cnt (chA 0 1 1) (rowF w op tn pl en kd nb) as ln dr M0 M1 M2 M3 M4) (As := [.int (iI 0), .int (iI 1), .int (iI 1)]) (rest := []) (r := bz (chA 0 1 1 = 0)) (ci := 6) (q0 := 0) ⟨hx, hb, hml, hown, hts⟩ (c_X6_check n L a rn sp cnt th w op tn pl en kd nb as ln dr M0 M1 M2 M3 M4 0 1 1 (by first | decide | exact bz_01 _ | omega) (by first | decide | exact bz_01 _ | omega) (by first | decide | exact bz_01 _ | omega)) (cwV 3 hts gX6_addBoat_X6_check rfl rfl rfl (by decide +kernel) ⟨Nat.le_of_ble_eq_true rfl, Nat.le_of_ble_eq_true rfl⟩) hK hNW hP hD hS hA rfl rfl rfl rfl (by decide) rfl rfl rfl rfl rfl rfl hl.1 rfl (Nat.le_of_ble_eq_true rfl) dX6_addBoat_57 ⟨Nat.zero_le _, Nat.zero_le _⟩ (fun H locs hP hD hS => ?_)
          refine li_top (b := 0) rfl ?_
          refine li_if_ne_f (tgt := 65) hx hb dX6_addBoat_60 (by decide) (by decide) (by decide) ?_
          refine li_const hx hb dX6_addBoat_63 ?_
          exact li_iret () hx hb hr hlocks hK hP hD hS dX6_addBoat_64 hQ (by first | rfl | (exfalso; omega)) (congrArg iI (by first | rfl | (exfalso; omega)))
        · refine lv_aload_n hx hb dX6_addBoat_43 rfl (lv_at hl 1 rfl) ?_
          refine cl_i0 (isC := [0, 1, 2, 3, 4]) (isR := []) (isN := [0, 1, 2, 3, 4]) (wr := []) (wn := cMd cI n L a rn sp cnt th (rowF w op tn pl en kd nb) as ln dr M0 M1 M2 M3 M4) (As := []) (rest := [.int (iI 0), .ref M0]) (r := w.1 / a) (ci := 6) (q0 := 0) ⟨hx, hb, hml, hown, hts⟩ (c_X6_depth n L a rn sp cnt th w op tn pl en kd nb as ln dr M0 M1 M2 M3 M4 (by first | assumption | omega) (by first | assumption | omega) (by first | assumption | omega) (by first | assumption | omega)) (cwV 0 hts gX6_addBoat_X6_depth rfl rfl rfl (by decide +kernel) ⟨Nat.le_of_ble_eq_true rfl, Nat.le_of_ble_eq_true rfl⟩) hK hNW hP hD hS hA rfl rfl rfl rfl (by decide) rfl rfl rfl rfl rfl rfl hl.1 rfl (Nat.le_of_ble_eq_true rfl) dX6_addBoat_44 ⟨Nat.zero_le _, Nat.zero_le _⟩ (fun H locs hP hD hS => ?_)
          refine lv_iload_n hx hb dX6_addBoat_47 rfl (lv_at hl 3 rfl) ?_
          refine li_icmp_lt (tgt := 55) hx hb dX6_addBoat_48 (by decide) (ib_i (by omega) (by omega)) (ib_i (by omega) (by omega)) (fun c_48 => ?_) (fun c_48 => ?_)
          · refine li_const hx hb dX6_addBoat_55 ?_
            refine li_const hx hb dX6_addBoat_56 ?_
            refine cl_i0 (isC := [0, 1, 2, 3, 4]) (isR := []) (isN := [0, 1, 2, 3, 4]) (wr := []) (wn := cMd cI n L a rn sp cnt (chA 0 0 1) (rowF w op tn pl en kd nb) as ln dr M0 M1 M2 M3 M4) (As := [.int (iI 0), .int (iI 0), .int (iI 1)]) (rest := []) (r := bz (chA 0 0 1 = 0)) (ci := 6) (q0 := 0) ⟨hx, hb, hml, hown, hts⟩ (c_X6_check n L a rn sp cnt th w op tn pl en kd nb as ln dr M0 M1 M2 M3 M4 0 0 1 (by first | decide | exact bz_01 _ | omega) (by first | decide | exact bz_01 _ | omega) (by first | decide | exact bz_01 _ | omega)) (cwV 3 hts gX6_addBoat_X6_check rfl rfl rfl (by decide +kernel) ⟨Nat.le_of_ble_eq_true rfl, Nat.le_of_ble_eq_true rfl⟩) hK hNW hP hD hS hA rfl rfl rfl rfl (by decide) rfl rfl rfl rfl rfl rfl hl.1 rfl (Nat.le_of_ble_eq_true rfl) dX6_addBoat_57 ⟨Nat.zero_le _, Nat.zero_le _⟩ (fun H locs hP hD hS => ?_)
            refine li_top (b := 0) rfl ?_
            refine li_if_ne_f (tgt := 65) hx hb dX6_addBoat_60 (by decide) (by decide) (by decide) ?_
            refine li_const hx hb dX6_addBoat_63 ?_
            exact li_iret () hx hb hr hlocks hK hP hD hS dX6_addBoat_64 hQ (by first | rfl | (exfalso; omega)) (congrArg iI (by first | rfl | (exfalso; omega)))
          · refine li_const hx hb dX6_addBoat_51 ?_
            refine lv_goto (tgt := 56) hx hb dX6_addBoat_52 (by decide) ?_
            refine li_const hx hb dX6_addBoat_56 ?_
            refine cl_i0 (isC := [0, 1, 2, 3, 4]) (isR := []) (isN := [0, 1, 2, 3, 4]) (wr := []) (wn := cMd cI n L a rn sp cnt (chA 0 1 1) (rowF w op tn pl en kd nb) as ln dr M0 M1 M2 M3 M4) (As := [.int (iI 0), .int (iI 1), .int (iI 1)]) (rest := []) (r := bz (chA 0 1 1 = 0)) (ci := 6) (q0 := 0) ⟨hx, hb, hml, hown, hts⟩ (c_X6_check n L a rn sp cnt th w op tn pl en kd nb as ln dr M0 M1 M2 M3 M4 0 1 1 (by first | decide | exact bz_01 _ | omega) (by first | decide | exact bz_01 _ | omega) (by first | decide | exact bz_01 _ | omega)) (cwV 3 hts gX6_addBoat_X6_check rfl rfl rfl (by decide +kernel) ⟨Nat.le_of_ble_eq_true rfl, Nat.le_of_ble_eq_true rfl⟩) hK hNW hP hD hS hA rfl rfl rfl rfl (by decide) rfl rfl rfl rfl rfl rfl hl.1 rfl (Nat.le_of_ble_eq_true rfl) dX6_addBoat_57 ⟨Nat.zero_le _, Nat.zero_le _⟩ (fun H locs hP hD hS => ?_)
            refine li_top (b := 0) rfl ?_
            refine li_if_ne_f (tgt := 65) hx hb dX6_addBoat_60 (by decide) (by decide) (by decide) ?_
            refine li_const hx hb dX6_addBoat_63 ?_
            exact li_iret () hx hb hr hlocks hK hP hD hS dX6_addBoat_64 hQ (by first | rfl | (exfalso; omega)) (congrArg iI (by first | rfl | (exfalso; omega)))
    · refine li_const hx hb dX6_addBoat_20 ?_
      refine lv_goto (tgt := 25) hx hb dX6_addBoat_21 (by decide) ?_
      refine lv_istore (lv' := [(4, .int (iI 1)), (0, .ref M0), (1, .int (iI x)), (2, .int (iI y)), (3, .int (iI z))]) hx hb dX6_addBoat_25 hl (by decide) rfl (fun ls hl => ?_)
      refine lv_aload_n hx hb dX6_addBoat_27 rfl (lv_at hl 1 rfl) ?_
      refine lv_iload hx hb dX6_addBoat_28 (lv_at hl 0 rfl) ?_
      refine lv_aload_n hx hb dX6_addBoat_30 rfl (lv_at hl 1 rfl) ?_
      refine li_get (ci := 6) (v := .int (iI cnt)) (C := RX6) (T := TX6) (N := 11) (q0 := 0) (k := 9) hx hb hts hin_X6 hown hK hP rfl rfl (by decide) hf_56 rfl rfl dX6_addBoat_31 ?_
      refine li_bipush hx hb dX6_addBoat_34 (by decide) ?_
      refine li_icmp_ge (tgt := 55) hx hb dX6_addBoat_36 (by decide) (ib_i (by omega) (by omega)) (by decide) (fun c_36 => ?_) (fun c_36 => ?_)
      · refine li_const hx hb dX6_addBoat_55 ?_
        refine li_const hx hb dX6_addBoat_56 ?_
        refine cl_i0 (isC := [0, 1, 2, 3, 4]) (isR := []) (isN := [0, 1, 2, 3, 4]) (wr := []) (wn := cMd cI n L a rn sp cnt (chA 1 0 1) (rowF w op tn pl en kd nb) as ln dr M0 M1 M2 M3 M4) (As := [.int (iI 1), .int (iI 0), .int (iI 1)]) (rest := []) (r := bz (chA 1 0 1 = 0)) (ci := 6) (q0 := 0) ⟨hx, hb, hml, hown, hts⟩ (c_X6_check n L a rn sp cnt th w op tn pl en kd nb as ln dr M0 M1 M2 M3 M4 1 0 1 (by first | decide | exact bz_01 _ | omega) (by first | decide | exact bz_01 _ | omega) (by first | decide | exact bz_01 _ | omega)) (cwV 3 hts gX6_addBoat_X6_check rfl rfl rfl (by decide +kernel) ⟨Nat.le_of_ble_eq_true rfl, Nat.le_of_ble_eq_true rfl⟩) hK hNW hP hD hS hA rfl rfl rfl rfl (by decide) rfl rfl rfl rfl rfl rfl hl.1 rfl (Nat.le_of_ble_eq_true rfl) dX6_addBoat_57 ⟨Nat.zero_le _, Nat.zero_le _⟩ (fun H locs hP hD hS => ?_)
        refine li_top (b := 0) rfl ?_
        refine li_if_ne_f (tgt := 65) hx hb dX6_addBoat_60 (by decide) (by decide) (by decide) ?_
        refine li_const hx hb dX6_addBoat_63 ?_
        exact li_iret () hx hb hr hlocks hK hP hD hS dX6_addBoat_64 hQ (by first | rfl | (exfalso; omega)) (congrArg iI (by first | rfl | (exfalso; omega)))
      · refine lv_iload_n hx hb dX6_addBoat_39 rfl (lv_at hl 4 rfl) ?_
        refine li_if_eq (tgt := 51) hx hb dX6_addBoat_40 (by decide) (ib_i (by omega) (by omega)) (fun c_40 => ?_) (fun c_40 => ?_)
        · refine li_const hx hb dX6_addBoat_51 ?_
          refine lv_goto (tgt := 56) hx hb dX6_addBoat_52 (by decide) ?_
          refine li_const hx hb dX6_addBoat_56 ?_
          refine cl_i0 (isC := [0, 1, 2, 3, 4]) (isR := []) (isN := [0, 1, 2, 3, 4]) (wr := []) (wn := cMd cI n L a rn sp cnt (chA 1 1 1) (rowF w op tn pl en kd nb) as ln dr M0 M1 M2 M3 M4) (As := [.int (iI 1), .int (iI 1), .int (iI 1)]) (rest := []) (r := bz (chA 1 1 1 = 0)) (ci := 6) (q0 := 0) ⟨hx, hb, hml, hown, hts⟩ (c_X6_check n L a rn sp cnt th w op tn pl en kd nb as ln dr M0 M1 M2 M3 M4 1 1 1 (by first | decide | exact bz_01 _ | omega) (by first | decide | exact bz_01 _ | omega) (by first | decide | exact bz_01 _ | omega)) (cwV 3 hts gX6_addBoat_X6_check rfl rfl rfl (by decide +kernel) ⟨Nat.le_of_ble_eq_true rfl, Nat.le_of_ble_eq_true rfl⟩) hK hNW hP hD hS hA rfl rfl rfl rfl (by decide) rfl rfl rfl rfl rfl rfl hl.1 rfl (Nat.le_of_ble_eq_true rfl) dX6_addBoat_57 ⟨Nat.zero_le _, Nat.zero_le _⟩ (fun H locs hP hD hS => ?_)
          refine li_top (b := 1) rfl ?_
          refine li_if_ne_t (tgt := 65) hx hb dX6_addBoat_60 (by decide) (by decide) (by decide) ?_
          refine lv_aload_n hx hb dX6_addBoat_65 rfl (lv_at hl 1 rfl) ?_
          refine li_get (ci := 6) (v := .ref M3) (C := RX6) (T := TX6) (N := 11) (q0 := 0) (k := 7) hx hb hts hin_X6 hown hK hP rfl rfl (by decide) hf_16 rfl rfl dX6_addBoat_66 ?_
          refine lv_aload_n hx hb dX6_addBoat_69 rfl (lv_at hl 1 rfl) ?_
          refine li_get (ci := 6) (v := .int (iI cnt)) (C := RX6) (T := TX6) (N := 11) (q0 := 0) (k := 9) hx hb hts hin_X6 hown hK hP rfl rfl (by decide) hf_56 rfl rfl dX6_addBoat_70 ?_
          refine lv_iload_n hx hb dX6_addBoat_73 rfl (lv_at hl 2 rfl) ?_
          refine li_iast (q0 := 3) (t0 := 0) (g := ln) (w2 := cMd cI n L a rn sp cnt 0 (rowF w op tn pl en kd nb) as (upZ ln cnt x) dr M0 M1 M2 M3 M4) hx hb hK hP hD hS rfl rfl (by omega) (by omega) (ib_i (by omega) (by omega)) dX6_addBoat_74 rfl (fun H locs hP hD hS => ?_)
          refine lv_aload_n hx hb dX6_addBoat_75 rfl (lv_at hl 1 rfl) ?_
          refine li_get (ci := 6) (v := .ref M4) (C := RX6) (T := TX6) (N := 11) (q0 := 0) (k := 8) hx hb hts hin_X6 hown hK hP rfl rfl (by decide) hf_19 rfl rfl dX6_addBoat_76 ?_
          refine lv_aload_n hx hb dX6_addBoat_79 rfl (lv_at hl 1 rfl) ?_
          refine li_get (ci := 6) (v := .int (iI cnt)) (C := RX6) (T := TX6) (N := 11) (q0 := 0) (k := 9) hx hb hts hin_X6 hown hK hP rfl rfl (by decide) hf_56 rfl rfl dX6_addBoat_80 ?_
          refine lv_iload_n hx hb dX6_addBoat_83 rfl (lv_at hl 3 rfl) ?_
          refine li_iast (q0 := 4) (t0 := 0) (g := dr) (w2 := cMd cI n L a rn sp cnt 0 (rowF w op tn pl en kd nb) as (upZ ln cnt x) (upZ dr cnt y) M0 M1 M2 M3 M4) hx hb hK hP hD hS rfl rfl (by omega) (by omega) (ib_i (by omega) (by omega)) dX6_addBoat_84 rfl (fun H locs hP hD hS => ?_)
          refine lv_aload_n hx hb dX6_addBoat_85 rfl (lv_at hl 1 rfl) ?_
          refine li_get (ci := 6) (v := .ref M1) (C := RX6) (T := TX6) (N := 11) (q0 := 0) (k := 5) hx hb hts hin_X6 hown hK hP rfl rfl (by decide) hf_9 rfl rfl dX6_addBoat_86 ?_
          refine li_bipush hx hb dX6_addBoat_89 (by decide) ?_
          refine lv_aload_n hx hb dX6_addBoat_91 rfl (lv_at hl 1 rfl) ?_
          refine li_get (ci := 6) (v := .int (iI cnt)) (C := RX6) (T := TX6) (N := 11) (q0 := 0) (k := 9) hx hb hts hin_X6 hown hK hP rfl rfl (by decide) hf_56 rfl rfl dX6_addBoat_92 ?_
          refine li_add hx hb dX6_addBoat_95 ?_
          refine lv_iload_n hx hb dX6_addBoat_96 rfl (lv_at hl 4 rfl) ?_
          refine li_if_eq (tgt := 109) hx hb dX6_addBoat_97 (by decide) (ib_i (by omega) (by omega)) (fun c_97 => ?_) (fun c_97 => ?_)
          · refine li_const hx hb dX6_addBoat_109 ?_
            refine li_iast (q0 := 1) (t0 := 0) (g := (rowF w op tn pl en kd nb)) (w2 := cMd cI n L a rn sp cnt 0 (rowF w op tn (upZ pl cnt 0) en kd nb) as (upZ ln cnt x) (upZ dr cnt y) M0 M1 M2 M3 M4) hx hb hK hP hD hS rfl rfl (by omega) (by omega) (ib_i (by omega) (by omega)) dX6_addBoat_110 (by rw [wr_p (c := cnt) (by omega) (by omega) (by omega)] <;> rfl) (fun H locs hP hD hS => ?_)
            refine lv_aload_n hx hb dX6_addBoat_111 rfl (lv_at hl 1 rfl) ?_
            refine lv_dup hx hb dX6_addBoat_112 rfl ?_
            refine li_get (ci := 6) (v := .int (iI cnt)) (C := RX6) (T := TX6) (N := 11) (q0 := 0) (k := 9) hx hb hts hin_X6 hown hK hP rfl rfl (by decide) hf_56 rfl rfl dX6_addBoat_113 ?_
            refine li_const hx hb dX6_addBoat_116 ?_
            refine li_add hx hb dX6_addBoat_117 ?_
            refine li_put (ci := 6) (v := .int (iI (cnt + 1))) (ty := .int) (C := RX6) (T := TX6) (N := 11) (q0 := 0) (k := 9) (w2 := cMd cI n L a rn sp (cnt + 1) 0 (rowF w op tn (upZ pl cnt 0) en kd nb) as (upZ ln cnt x) (upZ dr cnt y) M0 M1 M2 M3 M4) hx hb hts hin_X6 tyX6_ok nmX6 hown hK hP hD hS rfl rfl (by decide) hf_56 rfl rfl (by decide +kernel) rfl rfl (Nat.le_of_ble_eq_true rfl) dX6_addBoat_118 rfl (fun H locs hP hD hS => ?_)
            refine lv_aload_n hx hb dX6_addBoat_121 rfl (lv_at hl 1 rfl) ?_
            refine li_get (ci := 6) (v := .int (iI (cnt + 1))) (C := RX6) (T := TX6) (N := 11) (q0 := 0) (k := 9) hx hb hts hin_X6 hown hK hP rfl rfl (by decide) hf_56 rfl rfl dX6_addBoat_122 ?_
            refine li_const hx hb dX6_addBoat_125 ?_
            refine li_sub hx hb dX6_addBoat_126 ?_
            exact li_iret () hx hb hr hlocks hK hP hD hS dX6_addBoat_127 hQ (by exfalso; omega) (congrArg iI (by exfalso; omega))
          · refine lv_aload_n hx hb dX6_addBoat_100 rfl (lv_at hl 1 rfl) ?_
            refine li_get (ci := 6) (v := .int (iI n)) (C := RX6) (T := TX6) (N := 11) (q0 := 0) (k := 0) hx hb hts hin_X6 hown hK hP rfl rfl (by decide) hf_26 rfl rfl dX6_addBoat_101 ?_
            refine li_const hx hb dX6_addBoat_104 ?_
            refine li_add hx hb dX6_addBoat_105 ?_
            refine lv_goto (tgt := 110) hx hb dX6_addBoat_106 (by decide) ?_
            refine li_iast (q0 := 1) (t0 := 0) (g := (rowF w op tn pl en kd nb)) (w2 := cMd cI n L a rn sp cnt 0 (rowF w op tn (upZ pl cnt (n + 1)) en kd nb) as (upZ ln cnt x) (upZ dr cnt y) M0 M1 M2 M3 M4) hx hb hK hP hD hS rfl rfl (by omega) (by omega) (ib_i (by omega) (by omega)) dX6_addBoat_110 (by rw [wr_p (c := cnt) (by omega) (by omega) (by omega)] <;> rfl) (fun H locs hP hD hS => ?_)
            refine lv_aload_n hx hb dX6_addBoat_111 rfl (lv_at hl 1 rfl) ?_
            refine lv_dup hx hb dX6_addBoat_112 rfl ?_
            refine li_get (ci := 6) (v := .int (iI cnt)) (C := RX6) (T := TX6) (N := 11) (q0 := 0) (k := 9) hx hb hts hin_X6 hown hK hP rfl rfl (by decide) hf_56 rfl rfl dX6_addBoat_113 ?_
            refine li_const hx hb dX6_addBoat_116 ?_
            refine li_add hx hb dX6_addBoat_117 ?_
            refine li_put (ci := 6) (v := .int (iI (cnt + 1))) (ty := .int) (C := RX6) (T := TX6) (N := 11) (q0 := 0) (k := 9) (w2 := cMd cI n L a rn sp (cnt + 1) 0 (rowF w op tn (upZ pl cnt (n + 1)) en kd nb) as (upZ ln cnt x) (upZ dr cnt y) M0 M1 M2 M3 M4) hx hb hts hin_X6 tyX6_ok nmX6 hown hK hP hD hS rfl rfl (by decide) hf_56 rfl rfl (by decide +kernel) rfl rfl (Nat.le_of_ble_eq_true rfl) dX6_addBoat_118 rfl (fun H locs hP hD hS => ?_)
            refine lv_aload_n hx hb dX6_addBoat_121 rfl (lv_at hl 1 rfl) ?_
            refine li_get (ci := 6) (v := .int (iI (cnt + 1))) (C := RX6) (T := TX6) (N := 11) (q0 := 0) (k := 9) hx hb hts hin_X6 hown hK hP rfl rfl (by decide) hf_56 rfl rfl dX6_addBoat_122 ?_
            refine li_const hx hb dX6_addBoat_125 ?_
            refine li_sub hx hb dX6_addBoat_126 ?_
            exact li_iret () hx hb hr hlocks hK hP hD hS dX6_addBoat_127 hQ (by exfalso; omega) (congrArg iI (by exfalso; omega))
        · refine lv_aload_n hx hb dX6_addBoat_43 rfl (lv_at hl 1 rfl) ?_
          refine cl_i0 (isC := [0, 1, 2, 3, 4]) (isR := []) (isN := [0, 1, 2, 3, 4]) (wr := []) (wn := cMd cI n L a rn sp cnt th (rowF w op tn pl en kd nb) as ln dr M0 M1 M2 M3 M4) (As := []) (rest := [.int (iI 1), .ref M0]) (r := w.1 / a) (ci := 6) (q0 := 0) ⟨hx, hb, hml, hown, hts⟩ (c_X6_depth n L a rn sp cnt th w op tn pl en kd nb as ln dr M0 M1 M2 M3 M4 (by first | assumption | omega) (by first | assumption | omega) (by first | assumption | omega) (by first | assumption | omega)) (cwV 0 hts gX6_addBoat_X6_depth rfl rfl rfl (by decide +kernel) ⟨Nat.le_of_ble_eq_true rfl, Nat.le_of_ble_eq_true rfl⟩) hK hNW hP hD hS hA rfl rfl rfl rfl (by decide) rfl rfl rfl rfl rfl rfl hl.1 rfl (Nat.le_of_ble_eq_true rfl) dX6_addBoat_44 ⟨Nat.zero_le _, Nat.zero_le _⟩ (fun H locs hP hD hS => ?_)
          refine lv_iload_n hx hb dX6_addBoat_47 rfl (lv_at hl 3 rfl) ?_
          refine li_icmp_lt (tgt := 55) hx hb dX6_addBoat_48 (by decide) (ib_i (by omega) (by omega)) (ib_i (by omega) (by omega)) (fun c_48 => ?_) (fun c_48 => ?_)
          · refine li_const hx hb dX6_addBoat_55 ?_
            refine li_const hx hb dX6_addBoat_56 ?_
            refine cl_i0 (isC := [0, 1, 2, 3, 4]) (isR := []) (isN := [0, 1, 2, 3, 4]) (wr := []) (wn := cMd cI n L a rn sp cnt (chA 1 0 1) (rowF w op tn pl en kd nb) as ln dr M0 M1 M2 M3 M4) (As := [.int (iI 1), .int (iI 0), .int (iI 1)]) (rest := []) (r := bz (chA 1 0 1 = 0)) (ci := 6) (q0 := 0) ⟨hx, hb, hml, hown, hts⟩ (c_X6_check n L a rn sp cnt th w op tn pl en kd nb as ln dr M0 M1 M2 M3 M4 1 0 1 (by first | decide | exact bz_01 _ | omega) (by first | decide | exact bz_01 _ | omega) (by first | decide | exact bz_01 _ | omega)) (cwV 3 hts gX6_addBoat_X6_check rfl rfl rfl (by decide +kernel) ⟨Nat.le_of_ble_eq_true rfl, Nat.le_of_ble_eq_true rfl⟩) hK hNW hP hD hS hA rfl rfl rfl rfl (by decide) rfl rfl rfl rfl rfl rfl hl.1 rfl (Nat.le_of_ble_eq_true rfl) dX6_addBoat_57 ⟨Nat.zero_le _, Nat.zero_le _⟩ (fun H locs hP hD hS => ?_)
            refine li_top (b := 0) rfl ?_
            refine li_if_ne_f (tgt := 65) hx hb dX6_addBoat_60 (by decide) (by decide) (by decide) ?_
            refine li_const hx hb dX6_addBoat_63 ?_
            exact li_iret () hx hb hr hlocks hK hP hD hS dX6_addBoat_64 hQ (by first | rfl | (exfalso; omega)) (congrArg iI (by first | rfl | (exfalso; omega)))
          · refine li_const hx hb dX6_addBoat_51 ?_
            refine lv_goto (tgt := 56) hx hb dX6_addBoat_52 (by decide) ?_
            refine li_const hx hb dX6_addBoat_56 ?_
            refine cl_i0 (isC := [0, 1, 2, 3, 4]) (isR := []) (isN := [0, 1, 2, 3, 4]) (wr := []) (wn := cMd cI n L a rn sp cnt (chA 1 1 1) (rowF w op tn pl en kd nb) as ln dr M0 M1 M2 M3 M4) (As := [.int (iI 1), .int (iI 1), .int (iI 1)]) (rest := []) (r := bz (chA 1 1 1 = 0)) (ci := 6) (q0 := 0) ⟨hx, hb, hml, hown, hts⟩ (c_X6_check n L a rn sp cnt th w op tn pl en kd nb as ln dr M0 M1 M2 M3 M4 1 1 1 (by first | decide | exact bz_01 _ | omega) (by first | decide | exact bz_01 _ | omega) (by first | decide | exact bz_01 _ | omega)) (cwV 3 hts gX6_addBoat_X6_check rfl rfl rfl (by decide +kernel) ⟨Nat.le_of_ble_eq_true rfl, Nat.le_of_ble_eq_true rfl⟩) hK hNW hP hD hS hA rfl rfl rfl rfl (by decide) rfl rfl rfl rfl rfl rfl hl.1 rfl (Nat.le_of_ble_eq_true rfl) dX6_addBoat_57 ⟨Nat.zero_le _, Nat.zero_le _⟩ (fun H locs hP hD hS => ?_)
            refine li_top (b := 1) rfl ?_
            refine li_if_ne_t (tgt := 65) hx hb dX6_addBoat_60 (by decide) (by decide) (by decide) ?_
            refine lv_aload_n hx hb dX6_addBoat_65 rfl (lv_at hl 1 rfl) ?_
            refine li_get (ci := 6) (v := .ref M3) (C := RX6) (T := TX6) (N := 11) (q0 := 0) (k := 7) hx hb hts hin_X6 hown hK hP rfl rfl (by decide) hf_16 rfl rfl dX6_addBoat_66 ?_
            refine lv_aload_n hx hb dX6_addBoat_69 rfl (lv_at hl 1 rfl) ?_
            refine li_get (ci := 6) (v := .int (iI cnt)) (C := RX6) (T := TX6) (N := 11) (q0 := 0) (k := 9) hx hb hts hin_X6 hown hK hP rfl rfl (by decide) hf_56 rfl rfl dX6_addBoat_70 ?_
            refine lv_iload_n hx hb dX6_addBoat_73 rfl (lv_at hl 2 rfl) ?_
            refine li_iast (q0 := 3) (t0 := 0) (g := ln) (w2 := cMd cI n L a rn sp cnt 0 (rowF w op tn pl en kd nb) as (upZ ln cnt x) dr M0 M1 M2 M3 M4) hx hb hK hP hD hS rfl rfl (by omega) (by omega) (ib_i (by omega) (by omega)) dX6_addBoat_74 rfl (fun H locs hP hD hS => ?_)
            refine lv_aload_n hx hb dX6_addBoat_75 rfl (lv_at hl 1 rfl) ?_
            refine li_get (ci := 6) (v := .ref M4) (C := RX6) (T := TX6) (N := 11) (q0 := 0) (k := 8) hx hb hts hin_X6 hown hK hP rfl rfl (by decide) hf_19 rfl rfl dX6_addBoat_76 ?_
            refine lv_aload_n hx hb dX6_addBoat_79 rfl (lv_at hl 1 rfl) ?_
            refine li_get (ci := 6) (v := .int (iI cnt)) (C := RX6) (T := TX6) (N := 11) (q0 := 0) (k := 9) hx hb hts hin_X6 hown hK hP rfl rfl (by decide) hf_56 rfl rfl dX6_addBoat_80 ?_
            refine lv_iload_n hx hb dX6_addBoat_83 rfl (lv_at hl 3 rfl) ?_
            refine li_iast (q0 := 4) (t0 := 0) (g := dr) (w2 := cMd cI n L a rn sp cnt 0 (rowF w op tn pl en kd nb) as (upZ ln cnt x) (upZ dr cnt y) M0 M1 M2 M3 M4) hx hb hK hP hD hS rfl rfl (by omega) (by omega) (ib_i (by omega) (by omega)) dX6_addBoat_84 rfl (fun H locs hP hD hS => ?_)
            refine lv_aload_n hx hb dX6_addBoat_85 rfl (lv_at hl 1 rfl) ?_
            refine li_get (ci := 6) (v := .ref M1) (C := RX6) (T := TX6) (N := 11) (q0 := 0) (k := 5) hx hb hts hin_X6 hown hK hP rfl rfl (by decide) hf_9 rfl rfl dX6_addBoat_86 ?_
            refine li_bipush hx hb dX6_addBoat_89 (by decide) ?_
            refine lv_aload_n hx hb dX6_addBoat_91 rfl (lv_at hl 1 rfl) ?_
            refine li_get (ci := 6) (v := .int (iI cnt)) (C := RX6) (T := TX6) (N := 11) (q0 := 0) (k := 9) hx hb hts hin_X6 hown hK hP rfl rfl (by decide) hf_56 rfl rfl dX6_addBoat_92 ?_
            refine li_add hx hb dX6_addBoat_95 ?_
            refine lv_iload_n hx hb dX6_addBoat_96 rfl (lv_at hl 4 rfl) ?_
            refine li_if_eq (tgt := 109) hx hb dX6_addBoat_97 (by decide) (ib_i (by omega) (by omega)) (fun c_97 => ?_) (fun c_97 => ?_)
            · refine li_const hx hb dX6_addBoat_109 ?_
              refine li_iast (q0 := 1) (t0 := 0) (g := (rowF w op tn pl en kd nb)) (w2 := cMd cI n L a rn sp cnt 0 (rowF w op tn (upZ pl cnt 0) en kd nb) as (upZ ln cnt x) (upZ dr cnt y) M0 M1 M2 M3 M4) hx hb hK hP hD hS rfl rfl (by omega) (by omega) (ib_i (by omega) (by omega)) dX6_addBoat_110 (by rw [wr_p (c := cnt) (by omega) (by omega) (by omega)] <;> rfl) (fun H locs hP hD hS => ?_)
              refine lv_aload_n hx hb dX6_addBoat_111 rfl (lv_at hl 1 rfl) ?_
              refine lv_dup hx hb dX6_addBoat_112 rfl ?_
              refine li_get (ci := 6) (v := .int (iI cnt)) (C := RX6) (T := TX6) (N := 11) (q0 := 0) (k := 9) hx hb hts hin_X6 hown hK hP rfl rfl (by decide) hf_56 rfl rfl dX6_addBoat_113 ?_
              refine li_const hx hb dX6_addBoat_116 ?_
              refine li_add hx hb dX6_addBoat_117 ?_
              refine li_put (ci := 6) (v := .int (iI (cnt + 1))) (ty := .int) (C := RX6) (T := TX6) (N := 11) (q0 := 0) (k := 9) (w2 := cMd cI n L a rn sp (cnt + 1) 0 (rowF w op tn (upZ pl cnt 0) en kd nb) as (upZ ln cnt x) (upZ dr cnt y) M0 M1 M2 M3 M4) hx hb hts hin_X6 tyX6_ok nmX6 hown hK hP hD hS rfl rfl (by decide) hf_56 rfl rfl (by decide +kernel) rfl rfl (Nat.le_of_ble_eq_true rfl) dX6_addBoat_118 rfl (fun H locs hP hD hS => ?_)
              refine lv_aload_n hx hb dX6_addBoat_121 rfl (lv_at hl 1 rfl) ?_
              refine li_get (ci := 6) (v := .int (iI (cnt + 1))) (C := RX6) (T := TX6) (N := 11) (q0 := 0) (k := 9) hx hb hts hin_X6 hown hK hP rfl rfl (by decide) hf_56 rfl rfl dX6_addBoat_122 ?_
              refine li_const hx hb dX6_addBoat_125 ?_
              refine li_sub hx hb dX6_addBoat_126 ?_
              exact li_iret () hx hb hr hlocks hK hP hD hS dX6_addBoat_127 hQ (by exfalso; omega) (congrArg iI (by exfalso; omega))
            · refine lv_aload_n hx hb dX6_addBoat_100 rfl (lv_at hl 1 rfl) ?_
              refine li_get (ci := 6) (v := .int (iI n)) (C := RX6) (T := TX6) (N := 11) (q0 := 0) (k := 0) hx hb hts hin_X6 hown hK hP rfl rfl (by decide) hf_26 rfl rfl dX6_addBoat_101 ?_
              refine li_const hx hb dX6_addBoat_104 ?_
              refine li_add hx hb dX6_addBoat_105 ?_
              refine lv_goto (tgt := 110) hx hb dX6_addBoat_106 (by decide) ?_
              refine li_iast (q0 := 1) (t0 := 0) (g := (rowF w op tn pl en kd nb)) (w2 := cMd cI n L a rn sp cnt 0 (rowF w op tn (upZ pl cnt (n + 1)) en kd nb) as (upZ ln cnt x) (upZ dr cnt y) M0 M1 M2 M3 M4) hx hb hK hP hD hS rfl rfl (by omega) (by omega) (ib_i (by omega) (by omega)) dX6_addBoat_110 (by rw [wr_p (c := cnt) (by omega) (by omega) (by omega)] <;> rfl) (fun H locs hP hD hS => ?_)
              refine lv_aload_n hx hb dX6_addBoat_111 rfl (lv_at hl 1 rfl) ?_
              refine lv_dup hx hb dX6_addBoat_112 rfl ?_
              refine li_get (ci := 6) (v := .int (iI cnt)) (C := RX6) (T := TX6) (N := 11) (q0 := 0) (k := 9) hx hb hts hin_X6 hown hK hP rfl rfl (by decide) hf_56 rfl rfl dX6_addBoat_113 ?_
              refine li_const hx hb dX6_addBoat_116 ?_
              refine li_add hx hb dX6_addBoat_117 ?_
              refine li_put (ci := 6) (v := .int (iI (cnt + 1))) (ty := .int) (C := RX6) (T := TX6) (N := 11) (q0 := 0) (k := 9) (w2 := cMd cI n L a rn sp (cnt + 1) 0 (rowF w op tn (upZ pl cnt (n + 1)) en kd nb) as (upZ ln cnt x) (upZ dr cnt y) M0 M1 M2 M3 M4) hx hb hts hin_X6 tyX6_ok nmX6 hown hK hP hD hS rfl rfl (by decide) hf_56 rfl rfl (by decide +kernel) rfl rfl (Nat.le_of_ble_eq_true rfl) dX6_addBoat_118 rfl (fun H locs hP hD hS => ?_)
              refine lv_aload_n hx hb dX6_addBoat_121 rfl (lv_at hl 1 rfl) ?_
              refine li_get (ci := 6) (v := .int (iI (cnt + 1))) (C := RX6) (T := TX6) (N := 11) (q0 := 0) (k := 9) hx hb hts hin_X6 hown hK hP rfl rfl (by decide) hf_56 rfl rfl dX6_addBoat_122 ?_
              refine li_const hx hb dX6_addBoat_125 ?_
              refine li_sub hx hb dX6_addBoat_126 ?_
              exact li_iret () hx hb hr hlocks hK hP hD hS dX6_addBoat_127 hQ (by exfalso; omega) (congrArg iI (by exfalso; omega))

set_option maxRecDepth 100000 in
set_option maxHeartbeats 4000000 in
theorem c_X6_addBoat_no2 {l : Launch} {D : va_G} {cI cZ cJ : ClassId} (n : Int) (L : Int) (a : Int) (rn : Int) (sp : Int) (cnt : Int) (th : Int) (w : Wt) (op : Int → Int) (tn : Int → Int) (pl : Int → Int) (en : Int) (kd : Int → Int) (nb : Int → Int) (as : Int → Int) (ln : Int → Int) (dr : Int → Int) (M0 M1 M2 M3 M4 : Nat) (x : Int) (y : Int) (z : Int) (hn : 1 ≤ n ∧ n ≤ 6) (hL : 5 ≤ L ∧ L ≤ 40) (ha : 1 ≤ a ∧ a ≤ 50) (hw : WI n L a w) (hcnt : 0 ≤ cnt ∧ cnt ≤ 10) (hz9 : z = 0 ∨ z = 1) (i_x : -2147483648 ≤ x ∧ x < 2147483648) (i_y : -2147483648 ≤ y ∧ y < 2147483648) (hv1 : 5 ≤ x ∧ x ≤ 60) (hv2 : 1 ≤ y ∧ y ≤ 19) (hv3 : ¬ (cnt ≤ 9 ∧ (z = 0 ∨ y ≤ w.1 / a))) : Di l yX6_addBoat wsX6_addBoat 25 [.ref M0, .int (iI x), .int (iI y), .int (iI z)] D (ty3 cI cZ cJ) (cMd cI n L a rn sp cnt th (rowF w op tn pl en kd nb) as ln dr M0 M1 M2 M3 M4) (0) (cMd cI n L a rn sp cnt 2 (rowF w op tn pl en kd nb) as ln dr M0 M1 M2 M3 M4) := by
  refine ct_i (plainFor_of_name (by decide)) rfl (Nat.le_of_ble_eq_true rfl) ?_
  intro p e s mI args below meth c_0 ls A hx hb hr hml hts hown hlocks hin hA hP hK hD hNW hS hl Q hQ
  have hown : s.vm.findClass RX6 = some mI.cls := hown
  have hl : lv_has ls 5 [(0, .ref M0), (1, .int (iI x)), (2, .int (iI y)), (3, .int (iI z))] := hl
  have hin_X6 : ∀ w ∈ wsX60, w ∈ wsX6_addBoat := by decide +kernel
  have hf_16 := hts (.fieldLink RX6 16 "LockStaircaseModel" "lengths" "[I") (by decide +kernel)
  have hf_19 := hts (.fieldLink RX6 19 "LockStaircaseModel" "draughts" "[I") (by decide +kernel)
  have hf_26 := hts (.fieldLink RX6 26 "LockStaircaseModel" "chambers" "I") (by decide +kernel)
  have hf_56 := hts (.fieldLink RX6 56 "LockStaircaseModel" "boats" "I") (by decide +kernel)
  have hf_9 := hts (.fieldLink RX6 9 "LockStaircaseModel" "row" "[I") (by decide +kernel)
  have hw1 : -1000 ≤ w.1 ∧ w.1 ≤ 20 * a := hw.1
  have d1 := dv_b ha hw1.1 hw1.2
  refine lv_iload_n hx hb dX6_addBoat_0 rfl (lv_at hl 1 rfl) ?_
  refine li_const hx hb dX6_addBoat_1 ?_
  refine li_bipush hx hb dX6_addBoat_2 (by decide) ?_
  refine cs_i0 (isC := []) (isR := [0, 1, 2, 3, 4]) (isN := [0, 1, 2, 3, 4]) (wr := cMd cI n L a rn sp cnt th (rowF w op tn pl en kd nb) as ln dr M0 M1 M2 M3 M4) (wn := cMd cI n L a rn sp cnt th (rowF w op tn pl en kd nb) as ln dr M0 M1 M2 M3 M4) (As := [.int (iI x), .int (iI 5), .int (iI 60)]) (rest := []) (r := bz (5 ≤ x ∧ x ≤ 60)) ⟨hx, hb, hml, hown, hts⟩ (c_X6_isWithin x 5 60 (by first | assumption | omega) (by first | assumption | omega) (by first | assumption | omega)) (va_cwS 3 hts gX6_addBoat_X6_isWithin rfl rfl rfl (by decide +kernel) ⟨Nat.le_of_ble_eq_true rfl, Nat.le_of_ble_eq_true rfl⟩) hK hNW hP hD hS hA rfl rfl rfl rfl (by decide) rfl rfl rfl hl.1 rfl (Nat.le_of_ble_eq_true rfl) dX6_addBoat_4 ⟨Nat.zero_le _, Nat.zero_le _⟩ (fun H locs hP hD hS => ?_)
  refine li_top (b := 1) (bz_t (by exact hv1)) ?_
  refine li_if_eq_f (tgt := 24) hx hb dX6_addBoat_7 (by decide) (by decide) (by decide) ?_
  refine lv_iload_n hx hb dX6_addBoat_10 rfl (lv_at hl 2 rfl) ?_
  refine li_const hx hb dX6_addBoat_11 ?_
  refine li_bipush hx hb dX6_addBoat_12 (by decide) ?_
  refine cs_i0 (isC := []) (isR := [0, 1, 2, 3, 4]) (isN := [0, 1, 2, 3, 4]) (wr := cMd cI n L a rn sp cnt th (rowF w op tn pl en kd nb) as ln dr M0 M1 M2 M3 M4) (wn := cMd cI n L a rn sp cnt th (rowF w op tn pl en kd nb) as ln dr M0 M1 M2 M3 M4) (As := [.int (iI y), .int (iI 1), .int (iI 19)]) (rest := []) (r := bz (1 ≤ y ∧ y ≤ 19)) ⟨hx, hb, hml, hown, hts⟩ (c_X6_isWithin y 1 19 (by first | assumption | omega) (by first | assumption | omega) (by first | assumption | omega)) (va_cwS 3 hts gX6_addBoat_X6_isWithin rfl rfl rfl (by decide +kernel) ⟨Nat.le_of_ble_eq_true rfl, Nat.le_of_ble_eq_true rfl⟩) hK hNW hP hD hS hA rfl rfl rfl rfl (by decide) rfl rfl rfl hl.1 rfl (Nat.le_of_ble_eq_true rfl) dX6_addBoat_14 ⟨Nat.zero_le _, Nat.zero_le _⟩ (fun H locs hP hD hS => ?_)
  refine li_top (b := 1) (bz_t (by exact hv2)) ?_
  refine li_if_eq_f (tgt := 24) hx hb dX6_addBoat_17 (by decide) (by decide) (by decide) ?_
  refine li_const hx hb dX6_addBoat_20 ?_
  refine lv_goto (tgt := 25) hx hb dX6_addBoat_21 (by decide) ?_
  refine lv_istore (lv' := [(4, .int (iI 1)), (0, .ref M0), (1, .int (iI x)), (2, .int (iI y)), (3, .int (iI z))]) hx hb dX6_addBoat_25 hl (by decide) rfl (fun ls hl => ?_)
  refine lv_aload_n hx hb dX6_addBoat_27 rfl (lv_at hl 1 rfl) ?_
  refine lv_iload hx hb dX6_addBoat_28 (lv_at hl 0 rfl) ?_
  refine lv_aload_n hx hb dX6_addBoat_30 rfl (lv_at hl 1 rfl) ?_
  refine li_get (ci := 6) (v := .int (iI cnt)) (C := RX6) (T := TX6) (N := 11) (q0 := 0) (k := 9) hx hb hts hin_X6 hown hK hP rfl rfl (by decide) hf_56 rfl rfl dX6_addBoat_31 ?_
  refine li_bipush hx hb dX6_addBoat_34 (by decide) ?_
  refine li_icmp_ge (tgt := 55) hx hb dX6_addBoat_36 (by decide) (ib_i (by omega) (by omega)) (by decide) (fun c_36 => ?_) (fun c_36 => ?_)
  · refine li_const hx hb dX6_addBoat_55 ?_
    refine li_const hx hb dX6_addBoat_56 ?_
    refine cl_i0 (isC := [0, 1, 2, 3, 4]) (isR := []) (isN := [0, 1, 2, 3, 4]) (wr := []) (wn := cMd cI n L a rn sp cnt (chA 1 0 1) (rowF w op tn pl en kd nb) as ln dr M0 M1 M2 M3 M4) (As := [.int (iI 1), .int (iI 0), .int (iI 1)]) (rest := []) (r := bz (chA 1 0 1 = 0)) (ci := 6) (q0 := 0) ⟨hx, hb, hml, hown, hts⟩ (c_X6_check n L a rn sp cnt th w op tn pl en kd nb as ln dr M0 M1 M2 M3 M4 1 0 1 (by first | decide | exact bz_01 _ | omega) (by first | decide | exact bz_01 _ | omega) (by first | decide | exact bz_01 _ | omega)) (cwV 3 hts gX6_addBoat_X6_check rfl rfl rfl (by decide +kernel) ⟨Nat.le_of_ble_eq_true rfl, Nat.le_of_ble_eq_true rfl⟩) hK hNW hP hD hS hA rfl rfl rfl rfl (by decide) rfl rfl rfl rfl rfl rfl hl.1 rfl (Nat.le_of_ble_eq_true rfl) dX6_addBoat_57 ⟨Nat.zero_le _, Nat.zero_le _⟩ (fun H locs hP hD hS => ?_)
    refine li_top (b := 0) rfl ?_
    refine li_if_ne_f (tgt := 65) hx hb dX6_addBoat_60 (by decide) (by decide) (by decide) ?_
    refine li_const hx hb dX6_addBoat_63 ?_
    exact li_iret () hx hb hr hlocks hK hP hD hS dX6_addBoat_64 hQ rfl (congrArg iI (rfl))
  · refine lv_iload_n hx hb dX6_addBoat_39 rfl (lv_at hl 4 rfl) ?_
    refine li_if_eq (tgt := 51) hx hb dX6_addBoat_40 (by decide) (ib_i (by omega) (by omega)) (fun c_40 => ?_) (fun c_40 => ?_)
    · refine li_const hx hb dX6_addBoat_51 ?_
      refine lv_goto (tgt := 56) hx hb dX6_addBoat_52 (by decide) ?_
      refine li_const hx hb dX6_addBoat_56 ?_
      refine cl_i0 (isC := [0, 1, 2, 3, 4]) (isR := []) (isN := [0, 1, 2, 3, 4]) (wr := []) (wn := cMd cI n L a rn sp cnt (chA 1 1 1) (rowF w op tn pl en kd nb) as ln dr M0 M1 M2 M3 M4) (As := [.int (iI 1), .int (iI 1), .int (iI 1)]) (rest := []) (r := bz (chA 1 1 1 = 0)) (ci := 6) (q0 := 0) ⟨hx, hb, hml, hown, hts⟩ (c_X6_check n L a rn sp cnt th w op tn pl en kd nb as ln dr M0 M1 M2 M3 M4 1 1 1 (by first | decide | exact bz_01 _ | omega) (by first | decide | exact bz_01 _ | omega) (by first | decide | exact bz_01 _ | omega)) (cwV 3 hts gX6_addBoat_X6_check rfl rfl rfl (by decide +kernel) ⟨Nat.le_of_ble_eq_true rfl, Nat.le_of_ble_eq_true rfl⟩) hK hNW hP hD hS hA rfl rfl rfl rfl (by decide) rfl rfl rfl rfl rfl rfl hl.1 rfl (Nat.le_of_ble_eq_true rfl) dX6_addBoat_57 ⟨Nat.zero_le _, Nat.zero_le _⟩ (fun H locs hP hD hS => ?_)
      refine li_top (b := 1) rfl ?_
      refine li_if_ne_t (tgt := 65) hx hb dX6_addBoat_60 (by decide) (by decide) (by decide) ?_
      refine lv_aload_n hx hb dX6_addBoat_65 rfl (lv_at hl 1 rfl) ?_
      refine li_get (ci := 6) (v := .ref M3) (C := RX6) (T := TX6) (N := 11) (q0 := 0) (k := 7) hx hb hts hin_X6 hown hK hP rfl rfl (by decide) hf_16 rfl rfl dX6_addBoat_66 ?_
      refine lv_aload_n hx hb dX6_addBoat_69 rfl (lv_at hl 1 rfl) ?_
      refine li_get (ci := 6) (v := .int (iI cnt)) (C := RX6) (T := TX6) (N := 11) (q0 := 0) (k := 9) hx hb hts hin_X6 hown hK hP rfl rfl (by decide) hf_56 rfl rfl dX6_addBoat_70 ?_
      refine lv_iload_n hx hb dX6_addBoat_73 rfl (lv_at hl 2 rfl) ?_
      refine li_iast (q0 := 3) (t0 := 0) (g := ln) (w2 := cMd cI n L a rn sp cnt 0 (rowF w op tn pl en kd nb) as (upZ ln cnt x) dr M0 M1 M2 M3 M4) hx hb hK hP hD hS rfl rfl (by omega) (by omega) (ib_i (by omega) (by omega)) dX6_addBoat_74 rfl (fun H locs hP hD hS => ?_)
      refine lv_aload_n hx hb dX6_addBoat_75 rfl (lv_at hl 1 rfl) ?_
      refine li_get (ci := 6) (v := .ref M4) (C := RX6) (T := TX6) (N := 11) (q0 := 0) (k := 8) hx hb hts hin_X6 hown hK hP rfl rfl (by decide) hf_19 rfl rfl dX6_addBoat_76 ?_
      refine lv_aload_n hx hb dX6_addBoat_79 rfl (lv_at hl 1 rfl) ?_
      refine li_get (ci := 6) (v := .int (iI cnt)) (C := RX6) (T := TX6) (N := 11) (q0 := 0) (k := 9) hx hb hts hin_X6 hown hK hP rfl rfl (by decide) hf_56 rfl rfl dX6_addBoat_80 ?_
      refine lv_iload_n hx hb dX6_addBoat_83 rfl (lv_at hl 3 rfl) ?_
      refine li_iast (q0 := 4) (t0 := 0) (g := dr) (w2 := cMd cI n L a rn sp cnt 0 (rowF w op tn pl en kd nb) as (upZ ln cnt x) (upZ dr cnt y) M0 M1 M2 M3 M4) hx hb hK hP hD hS rfl rfl (by omega) (by omega) (ib_i (by omega) (by omega)) dX6_addBoat_84 rfl (fun H locs hP hD hS => ?_)
      refine lv_aload_n hx hb dX6_addBoat_85 rfl (lv_at hl 1 rfl) ?_
      refine li_get (ci := 6) (v := .ref M1) (C := RX6) (T := TX6) (N := 11) (q0 := 0) (k := 5) hx hb hts hin_X6 hown hK hP rfl rfl (by decide) hf_9 rfl rfl dX6_addBoat_86 ?_
      refine li_bipush hx hb dX6_addBoat_89 (by decide) ?_
      refine lv_aload_n hx hb dX6_addBoat_91 rfl (lv_at hl 1 rfl) ?_
      refine li_get (ci := 6) (v := .int (iI cnt)) (C := RX6) (T := TX6) (N := 11) (q0 := 0) (k := 9) hx hb hts hin_X6 hown hK hP rfl rfl (by decide) hf_56 rfl rfl dX6_addBoat_92 ?_
      refine li_add hx hb dX6_addBoat_95 ?_
      refine lv_iload_n hx hb dX6_addBoat_96 rfl (lv_at hl 4 rfl) ?_
      refine li_if_eq (tgt := 109) hx hb dX6_addBoat_97 (by decide) (ib_i (by omega) (by omega)) (fun c_97 => ?_) (fun c_97 => ?_)
      · refine li_const hx hb dX6_addBoat_109 ?_
        refine li_iast (q0 := 1) (t0 := 0) (g := (rowF w op tn pl en kd nb)) (w2 := cMd cI n L a rn sp cnt 0 (rowF w op tn (upZ pl cnt 0) en kd nb) as (upZ ln cnt x) (upZ dr cnt y) M0 M1 M2 M3 M4) hx hb hK hP hD hS rfl rfl (by omega) (by omega) (ib_i (by omega) (by omega)) dX6_addBoat_110 (by rw [wr_p (c := cnt) (by omega) (by omega) (by omega)] <;> rfl) (fun H locs hP hD hS => ?_)
        refine lv_aload_n hx hb dX6_addBoat_111 rfl (lv_at hl 1 rfl) ?_
        refine lv_dup hx hb dX6_addBoat_112 rfl ?_
        refine li_get (ci := 6) (v := .int (iI cnt)) (C := RX6) (T := TX6) (N := 11) (q0 := 0) (k := 9) hx hb hts hin_X6 hown hK hP rfl rfl (by decide) hf_56 rfl rfl dX6_addBoat_113 ?_
        refine li_const hx hb dX6_addBoat_116 ?_
        refine li_add hx hb dX6_addBoat_117 ?_
        refine li_put (ci := 6) (v := .int (iI (cnt + 1))) (ty := .int) (C := RX6) (T := TX6) (N := 11) (q0 := 0) (k := 9) (w2 := cMd cI n L a rn sp (cnt + 1) 0 (rowF w op tn (upZ pl cnt 0) en kd nb) as (upZ ln cnt x) (upZ dr cnt y) M0 M1 M2 M3 M4) hx hb hts hin_X6 tyX6_ok nmX6 hown hK hP hD hS rfl rfl (by decide) hf_56 rfl rfl (by decide +kernel) rfl rfl (Nat.le_of_ble_eq_true rfl) dX6_addBoat_118 rfl (fun H locs hP hD hS => ?_)
        refine lv_aload_n hx hb dX6_addBoat_121 rfl (lv_at hl 1 rfl) ?_
        refine li_get (ci := 6) (v := .int (iI (cnt + 1))) (C := RX6) (T := TX6) (N := 11) (q0 := 0) (k := 9) hx hb hts hin_X6 hown hK hP rfl rfl (by decide) hf_56 rfl rfl dX6_addBoat_122 ?_
        refine li_const hx hb dX6_addBoat_125 ?_
        refine li_sub hx hb dX6_addBoat_126 ?_
        exact li_iret () hx hb hr hlocks hK hP hD hS dX6_addBoat_127 hQ (by exfalso; omega) (congrArg iI (by exfalso; omega))
      · refine lv_aload_n hx hb dX6_addBoat_100 rfl (lv_at hl 1 rfl) ?_
        refine li_get (ci := 6) (v := .int (iI n)) (C := RX6) (T := TX6) (N := 11) (q0 := 0) (k := 0) hx hb hts hin_X6 hown hK hP rfl rfl (by decide) hf_26 rfl rfl dX6_addBoat_101 ?_
        refine li_const hx hb dX6_addBoat_104 ?_
        refine li_add hx hb dX6_addBoat_105 ?_
        refine lv_goto (tgt := 110) hx hb dX6_addBoat_106 (by decide) ?_
        refine li_iast (q0 := 1) (t0 := 0) (g := (rowF w op tn pl en kd nb)) (w2 := cMd cI n L a rn sp cnt 0 (rowF w op tn (upZ pl cnt (n + 1)) en kd nb) as (upZ ln cnt x) (upZ dr cnt y) M0 M1 M2 M3 M4) hx hb hK hP hD hS rfl rfl (by omega) (by omega) (ib_i (by omega) (by omega)) dX6_addBoat_110 (by rw [wr_p (c := cnt) (by omega) (by omega) (by omega)] <;> rfl) (fun H locs hP hD hS => ?_)
        refine lv_aload_n hx hb dX6_addBoat_111 rfl (lv_at hl 1 rfl) ?_
        refine lv_dup hx hb dX6_addBoat_112 rfl ?_
        refine li_get (ci := 6) (v := .int (iI cnt)) (C := RX6) (T := TX6) (N := 11) (q0 := 0) (k := 9) hx hb hts hin_X6 hown hK hP rfl rfl (by decide) hf_56 rfl rfl dX6_addBoat_113 ?_
        refine li_const hx hb dX6_addBoat_116 ?_
        refine li_add hx hb dX6_addBoat_117 ?_
        refine li_put (ci := 6) (v := .int (iI (cnt + 1))) (ty := .int) (C := RX6) (T := TX6) (N := 11) (q0 := 0) (k := 9) (w2 := cMd cI n L a rn sp (cnt + 1) 0 (rowF w op tn (upZ pl cnt (n + 1)) en kd nb) as (upZ ln cnt x) (upZ dr cnt y) M0 M1 M2 M3 M4) hx hb hts hin_X6 tyX6_ok nmX6 hown hK hP hD hS rfl rfl (by decide) hf_56 rfl rfl (by decide +kernel) rfl rfl (Nat.le_of_ble_eq_true rfl) dX6_addBoat_118 rfl (fun H locs hP hD hS => ?_)
        refine lv_aload_n hx hb dX6_addBoat_121 rfl (lv_at hl 1 rfl) ?_
        refine li_get (ci := 6) (v := .int (iI (cnt + 1))) (C := RX6) (T := TX6) (N := 11) (q0 := 0) (k := 9) hx hb hts hin_X6 hown hK hP rfl rfl (by decide) hf_56 rfl rfl dX6_addBoat_122 ?_
        refine li_const hx hb dX6_addBoat_125 ?_
        refine li_sub hx hb dX6_addBoat_126 ?_
        exact li_iret () hx hb hr hlocks hK hP hD hS dX6_addBoat_127 hQ (by exfalso; omega) (congrArg iI (by exfalso; omega))
    · refine lv_aload_n hx hb dX6_addBoat_43 rfl (lv_at hl 1 rfl) ?_
      refine cl_i0 (isC := [0, 1, 2, 3, 4]) (isR := []) (isN := [0, 1, 2, 3, 4]) (wr := []) (wn := cMd cI n L a rn sp cnt th (rowF w op tn pl en kd nb) as ln dr M0 M1 M2 M3 M4) (As := []) (rest := [.int (iI 1), .ref M0]) (r := w.1 / a) (ci := 6) (q0 := 0) ⟨hx, hb, hml, hown, hts⟩ (c_X6_depth n L a rn sp cnt th w op tn pl en kd nb as ln dr M0 M1 M2 M3 M4 (by first | assumption | omega) (by first | assumption | omega) (by first | assumption | omega) (by first | assumption | omega)) (cwV 0 hts gX6_addBoat_X6_depth rfl rfl rfl (by decide +kernel) ⟨Nat.le_of_ble_eq_true rfl, Nat.le_of_ble_eq_true rfl⟩) hK hNW hP hD hS hA rfl rfl rfl rfl (by decide) rfl rfl rfl rfl rfl rfl hl.1 rfl (Nat.le_of_ble_eq_true rfl) dX6_addBoat_44 ⟨Nat.zero_le _, Nat.zero_le _⟩ (fun H locs hP hD hS => ?_)
      refine lv_iload_n hx hb dX6_addBoat_47 rfl (lv_at hl 3 rfl) ?_
      refine li_icmp_lt (tgt := 55) hx hb dX6_addBoat_48 (by decide) (ib_i (by omega) (by omega)) (ib_i (by omega) (by omega)) (fun c_48 => ?_) (fun c_48 => ?_)
      · refine li_const hx hb dX6_addBoat_55 ?_
        refine li_const hx hb dX6_addBoat_56 ?_
        refine cl_i0 (isC := [0, 1, 2, 3, 4]) (isR := []) (isN := [0, 1, 2, 3, 4]) (wr := []) (wn := cMd cI n L a rn sp cnt (chA 1 0 1) (rowF w op tn pl en kd nb) as ln dr M0 M1 M2 M3 M4) (As := [.int (iI 1), .int (iI 0), .int (iI 1)]) (rest := []) (r := bz (chA 1 0 1 = 0)) (ci := 6) (q0 := 0) ⟨hx, hb, hml, hown, hts⟩ (c_X6_check n L a rn sp cnt th w op tn pl en kd nb as ln dr M0 M1 M2 M3 M4 1 0 1 (by first | decide | exact bz_01 _ | omega) (by first | decide | exact bz_01 _ | omega) (by first | decide | exact bz_01 _ | omega)) (cwV 3 hts gX6_addBoat_X6_check rfl rfl rfl (by decide +kernel) ⟨Nat.le_of_ble_eq_true rfl, Nat.le_of_ble_eq_true rfl⟩) hK hNW hP hD hS hA rfl rfl rfl rfl (by decide) rfl rfl rfl rfl rfl rfl hl.1 rfl (Nat.le_of_ble_eq_true rfl) dX6_addBoat_57 ⟨Nat.zero_le _, Nat.zero_le _⟩ (fun H locs hP hD hS => ?_)
        refine li_top (b := 0) rfl ?_
        refine li_if_ne_f (tgt := 65) hx hb dX6_addBoat_60 (by decide) (by decide) (by decide) ?_
        refine li_const hx hb dX6_addBoat_63 ?_
        exact li_iret () hx hb hr hlocks hK hP hD hS dX6_addBoat_64 hQ rfl (congrArg iI (rfl))
      · refine li_const hx hb dX6_addBoat_51 ?_
        refine lv_goto (tgt := 56) hx hb dX6_addBoat_52 (by decide) ?_
        refine li_const hx hb dX6_addBoat_56 ?_
        refine cl_i0 (isC := [0, 1, 2, 3, 4]) (isR := []) (isN := [0, 1, 2, 3, 4]) (wr := []) (wn := cMd cI n L a rn sp cnt (chA 1 1 1) (rowF w op tn pl en kd nb) as ln dr M0 M1 M2 M3 M4) (As := [.int (iI 1), .int (iI 1), .int (iI 1)]) (rest := []) (r := bz (chA 1 1 1 = 0)) (ci := 6) (q0 := 0) ⟨hx, hb, hml, hown, hts⟩ (c_X6_check n L a rn sp cnt th w op tn pl en kd nb as ln dr M0 M1 M2 M3 M4 1 1 1 (by first | decide | exact bz_01 _ | omega) (by first | decide | exact bz_01 _ | omega) (by first | decide | exact bz_01 _ | omega)) (cwV 3 hts gX6_addBoat_X6_check rfl rfl rfl (by decide +kernel) ⟨Nat.le_of_ble_eq_true rfl, Nat.le_of_ble_eq_true rfl⟩) hK hNW hP hD hS hA rfl rfl rfl rfl (by decide) rfl rfl rfl rfl rfl rfl hl.1 rfl (Nat.le_of_ble_eq_true rfl) dX6_addBoat_57 ⟨Nat.zero_le _, Nat.zero_le _⟩ (fun H locs hP hD hS => ?_)
        refine li_top (b := 1) rfl ?_
        refine li_if_ne_t (tgt := 65) hx hb dX6_addBoat_60 (by decide) (by decide) (by decide) ?_
        refine lv_aload_n hx hb dX6_addBoat_65 rfl (lv_at hl 1 rfl) ?_
        refine li_get (ci := 6) (v := .ref M3) (C := RX6) (T := TX6) (N := 11) (q0 := 0) (k := 7) hx hb hts hin_X6 hown hK hP rfl rfl (by decide) hf_16 rfl rfl dX6_addBoat_66 ?_
        refine lv_aload_n hx hb dX6_addBoat_69 rfl (lv_at hl 1 rfl) ?_
        refine li_get (ci := 6) (v := .int (iI cnt)) (C := RX6) (T := TX6) (N := 11) (q0 := 0) (k := 9) hx hb hts hin_X6 hown hK hP rfl rfl (by decide) hf_56 rfl rfl dX6_addBoat_70 ?_
        refine lv_iload_n hx hb dX6_addBoat_73 rfl (lv_at hl 2 rfl) ?_
        refine li_iast (q0 := 3) (t0 := 0) (g := ln) (w2 := cMd cI n L a rn sp cnt 0 (rowF w op tn pl en kd nb) as (upZ ln cnt x) dr M0 M1 M2 M3 M4) hx hb hK hP hD hS rfl rfl (by omega) (by omega) (ib_i (by omega) (by omega)) dX6_addBoat_74 rfl (fun H locs hP hD hS => ?_)
        refine lv_aload_n hx hb dX6_addBoat_75 rfl (lv_at hl 1 rfl) ?_
        refine li_get (ci := 6) (v := .ref M4) (C := RX6) (T := TX6) (N := 11) (q0 := 0) (k := 8) hx hb hts hin_X6 hown hK hP rfl rfl (by decide) hf_19 rfl rfl dX6_addBoat_76 ?_
        refine lv_aload_n hx hb dX6_addBoat_79 rfl (lv_at hl 1 rfl) ?_
        refine li_get (ci := 6) (v := .int (iI cnt)) (C := RX6) (T := TX6) (N := 11) (q0 := 0) (k := 9) hx hb hts hin_X6 hown hK hP rfl rfl (by decide) hf_56 rfl rfl dX6_addBoat_80 ?_
        refine lv_iload_n hx hb dX6_addBoat_83 rfl (lv_at hl 3 rfl) ?_
        refine li_iast (q0 := 4) (t0 := 0) (g := dr) (w2 := cMd cI n L a rn sp cnt 0 (rowF w op tn pl en kd nb) as (upZ ln cnt x) (upZ dr cnt y) M0 M1 M2 M3 M4) hx hb hK hP hD hS rfl rfl (by omega) (by omega) (ib_i (by omega) (by omega)) dX6_addBoat_84 rfl (fun H locs hP hD hS => ?_)
        refine lv_aload_n hx hb dX6_addBoat_85 rfl (lv_at hl 1 rfl) ?_
        refine li_get (ci := 6) (v := .ref M1) (C := RX6) (T := TX6) (N := 11) (q0 := 0) (k := 5) hx hb hts hin_X6 hown hK hP rfl rfl (by decide) hf_9 rfl rfl dX6_addBoat_86 ?_
        refine li_bipush hx hb dX6_addBoat_89 (by decide) ?_
        refine lv_aload_n hx hb dX6_addBoat_91 rfl (lv_at hl 1 rfl) ?_
        refine li_get (ci := 6) (v := .int (iI cnt)) (C := RX6) (T := TX6) (N := 11) (q0 := 0) (k := 9) hx hb hts hin_X6 hown hK hP rfl rfl (by decide) hf_56 rfl rfl dX6_addBoat_92 ?_
        refine li_add hx hb dX6_addBoat_95 ?_
        refine lv_iload_n hx hb dX6_addBoat_96 rfl (lv_at hl 4 rfl) ?_
        refine li_if_eq (tgt := 109) hx hb dX6_addBoat_97 (by decide) (ib_i (by omega) (by omega)) (fun c_97 => ?_) (fun c_97 => ?_)
        · refine li_const hx hb dX6_addBoat_109 ?_
          refine li_iast (q0 := 1) (t0 := 0) (g := (rowF w op tn pl en kd nb)) (w2 := cMd cI n L a rn sp cnt 0 (rowF w op tn (upZ pl cnt 0) en kd nb) as (upZ ln cnt x) (upZ dr cnt y) M0 M1 M2 M3 M4) hx hb hK hP hD hS rfl rfl (by omega) (by omega) (ib_i (by omega) (by omega)) dX6_addBoat_110 (by rw [wr_p (c := cnt) (by omega) (by omega) (by omega)] <;> rfl) (fun H locs hP hD hS => ?_)
          refine lv_aload_n hx hb dX6_addBoat_111 rfl (lv_at hl 1 rfl) ?_
          refine lv_dup hx hb dX6_addBoat_112 rfl ?_
          refine li_get (ci := 6) (v := .int (iI cnt)) (C := RX6) (T := TX6) (N := 11) (q0 := 0) (k := 9) hx hb hts hin_X6 hown hK hP rfl rfl (by decide) hf_56 rfl rfl dX6_addBoat_113 ?_
          refine li_const hx hb dX6_addBoat_116 ?_
          refine li_add hx hb dX6_addBoat_117 ?_
          refine li_put (ci := 6) (v := .int (iI (cnt + 1))) (ty := .int) (C := RX6) (T := TX6) (N := 11) (q0 := 0) (k := 9) (w2 := cMd cI n L a rn sp (cnt + 1) 0 (rowF w op tn (upZ pl cnt 0) en kd nb) as (upZ ln cnt x) (upZ dr cnt y) M0 M1 M2 M3 M4) hx hb hts hin_X6 tyX6_ok nmX6 hown hK hP hD hS rfl rfl (by decide) hf_56 rfl rfl (by decide +kernel) rfl rfl (Nat.le_of_ble_eq_true rfl) dX6_addBoat_118 rfl (fun H locs hP hD hS => ?_)
          refine lv_aload_n hx hb dX6_addBoat_121 rfl (lv_at hl 1 rfl) ?_
          refine li_get (ci := 6) (v := .int (iI (cnt + 1))) (C := RX6) (T := TX6) (N := 11) (q0 := 0) (k := 9) hx hb hts hin_X6 hown hK hP rfl rfl (by decide) hf_56 rfl rfl dX6_addBoat_122 ?_
          refine li_const hx hb dX6_addBoat_125 ?_
          refine li_sub hx hb dX6_addBoat_126 ?_
          exact li_iret () hx hb hr hlocks hK hP hD hS dX6_addBoat_127 hQ (by exfalso; omega) (congrArg iI (by exfalso; omega))
        · refine lv_aload_n hx hb dX6_addBoat_100 rfl (lv_at hl 1 rfl) ?_
          refine li_get (ci := 6) (v := .int (iI n)) (C := RX6) (T := TX6) (N := 11) (q0 := 0) (k := 0) hx hb hts hin_X6 hown hK hP rfl rfl (by decide) hf_26 rfl rfl dX6_addBoat_101 ?_
          refine li_const hx hb dX6_addBoat_104 ?_
          refine li_add hx hb dX6_addBoat_105 ?_
          refine lv_goto (tgt := 110) hx hb dX6_addBoat_106 (by decide) ?_
          refine li_iast (q0 := 1) (t0 := 0) (g := (rowF w op tn pl en kd nb)) (w2 := cMd cI n L a rn sp cnt 0 (rowF w op tn (upZ pl cnt (n + 1)) en kd nb) as (upZ ln cnt x) (upZ dr cnt y) M0 M1 M2 M3 M4) hx hb hK hP hD hS rfl rfl (by omega) (by omega) (ib_i (by omega) (by omega)) dX6_addBoat_110 (by rw [wr_p (c := cnt) (by omega) (by omega) (by omega)] <;> rfl) (fun H locs hP hD hS => ?_)
          refine lv_aload_n hx hb dX6_addBoat_111 rfl (lv_at hl 1 rfl) ?_
          refine lv_dup hx hb dX6_addBoat_112 rfl ?_
          refine li_get (ci := 6) (v := .int (iI cnt)) (C := RX6) (T := TX6) (N := 11) (q0 := 0) (k := 9) hx hb hts hin_X6 hown hK hP rfl rfl (by decide) hf_56 rfl rfl dX6_addBoat_113 ?_
          refine li_const hx hb dX6_addBoat_116 ?_
          refine li_add hx hb dX6_addBoat_117 ?_
          refine li_put (ci := 6) (v := .int (iI (cnt + 1))) (ty := .int) (C := RX6) (T := TX6) (N := 11) (q0 := 0) (k := 9) (w2 := cMd cI n L a rn sp (cnt + 1) 0 (rowF w op tn (upZ pl cnt (n + 1)) en kd nb) as (upZ ln cnt x) (upZ dr cnt y) M0 M1 M2 M3 M4) hx hb hts hin_X6 tyX6_ok nmX6 hown hK hP hD hS rfl rfl (by decide) hf_56 rfl rfl (by decide +kernel) rfl rfl (Nat.le_of_ble_eq_true rfl) dX6_addBoat_118 rfl (fun H locs hP hD hS => ?_)
          refine lv_aload_n hx hb dX6_addBoat_121 rfl (lv_at hl 1 rfl) ?_
          refine li_get (ci := 6) (v := .int (iI (cnt + 1))) (C := RX6) (T := TX6) (N := 11) (q0 := 0) (k := 9) hx hb hts hin_X6 hown hK hP rfl rfl (by decide) hf_56 rfl rfl dX6_addBoat_122 ?_
          refine li_const hx hb dX6_addBoat_125 ?_
          refine li_sub hx hb dX6_addBoat_126 ?_
          exact li_iret () hx hb hr hlocks hK hP hD hS dX6_addBoat_127 hQ (by exfalso; omega) (congrArg iI (by exfalso; omega))

set_option maxRecDepth 100000 in
set_option maxHeartbeats 4000000 in
theorem c_X6_move_ok {l : Launch} {D : va_G} {cI cZ cJ : ClassId} (n : Int) (L : Int) (a : Int) (rn : Int) (sp : Int) (cnt : Int) (th : Int) (w : Wt) (op : Int → Int) (tn : Int → Int) (pl : Int → Int) (en : Int) (kd : Int → Int) (nb : Int → Int) (as : Int → Int) (ln : Int → Int) (dr : Int → Int) (M0 M1 M2 M3 M4 : Nat) (b : Int) (up : Int) (hn : 1 ≤ n ∧ n ≤ 6) (hL : 5 ≤ L ∧ L ≤ 40) (ha : 1 ≤ a ∧ a ≤ 50) (hw : WI n L a w) (hop : opB op) (hoz : ∀ g, n < g → op g = 0) (hcnt : 0 ≤ cnt ∧ cnt ≤ 10) (hln : lnB ln) (hdr : lnB dr) (hpi : plI n pl) (hup : up = 0 ∨ up = 1) (i_b : -2147483648 ≤ b ∧ b < 2147483648) (hv : 0 ≤ b ∧ b ≤ cnt - 1) (hc : mvO n a w op cnt ln dr pl b up = 0) : Di l yX6_move wsX6_move 25 [.ref M0, .int (iI b), .int (iI up)] D (ty3 cI cZ cJ) (cMd cI n L a rn sp cnt th (rowF w op tn pl en kd nb) as ln dr M0 M1 M2 M3 M4) (plN pl b up) (cMd cI n L a rn sp cnt 0 (rowF w op tn (upZ pl b (plN pl b up)) en kd nb) as ln dr M0 M1 M2 M3 M4) := by
  refine ct_i (plainFor_of_name (by decide)) rfl (Nat.le_of_ble_eq_true rfl) ?_
  intro p e s mI args below meth c_0 ls A hx hb hr hml hts hown hlocks hin hA hP hK hD hNW hS hl Q hQ
  have hown : s.vm.findClass RX6 = some mI.cls := hown
  have hl : lv_has ls 4 [(0, .ref M0), (1, .int (iI b)), (2, .int (iI up))] := hl
  have hin_X6 : ∀ w ∈ wsX60, w ∈ wsX6_move := by decide +kernel
  have hf_9 := hts (.fieldLink RX6 9 "LockStaircaseModel" "row" "[I") (by decide +kernel)
  refine lv_aload_n hx hb dX6_move_0 rfl (lv_at hl 0 rfl) ?_
  refine lv_iload_n hx hb dX6_move_1 rfl (lv_at hl 1 rfl) ?_
  refine cl_i0 (isC := [0, 1, 2, 3, 4]) (isR := []) (isN := [0, 1, 2, 3, 4]) (wr := []) (wn := cMd cI n L a rn sp cnt th (rowF w op tn pl en kd nb) as ln dr M0 M1 M2 M3 M4) (As := [.int (iI b)]) (rest := []) (r := bz (0 ≤ b ∧ b ≤ cnt - 1)) (ci := 6) (q0 := 0) ⟨hx, hb, hml, hown, hts⟩ (c_X6_isBoat n L a rn sp cnt th w op tn pl en kd nb as ln dr M0 M1 M2 M3 M4 b (by first | assumption | omega) (by first | assumption | omega)) (cwV 1 hts gX6_move_X6_isBoat rfl rfl rfl (by decide +kernel) ⟨Nat.le_of_ble_eq_true rfl, Nat.le_of_ble_eq_true rfl⟩) hK hNW hP hD hS hA rfl rfl rfl rfl (by decide) rfl rfl rfl rfl rfl rfl hl.1 rfl (Nat.le_of_ble_eq_true rfl) dX6_move_2 ⟨Nat.zero_le _, Nat.zero_le _⟩ (fun H locs hP hD hS => ?_)
  refine li_top (b := 1) (bz_t (by exact hv)) ?_
  refine lv_istore_n (lv' := [(3, .int (iI 1)), (0, .ref M0), (1, .int (iI b)), (2, .int (iI up))]) hx hb dX6_move_5 rfl hl (by decide) rfl (fun ls hl => ?_)
  refine lv_aload_n hx hb dX6_move_6 rfl (lv_at hl 1 rfl) ?_
  refine lv_iload_n hx hb dX6_move_7 rfl (lv_at hl 0 rfl) ?_
  refine lv_iload_n hx hb dX6_move_8 rfl (lv_at hl 0 rfl) ?_
  refine li_if_eq_f (tgt := 21) hx hb dX6_move_9 (by decide) (by decide) (by decide) ?_
  refine lv_aload_n hx hb dX6_move_12 rfl (lv_at hl 1 rfl) ?_
  refine lv_iload_n hx hb dX6_move_13 rfl (lv_at hl 2 rfl) ?_
  refine lv_iload_n hx hb dX6_move_14 rfl (lv_at hl 3 rfl) ?_
  refine cl_i0 (isC := [0, 1, 2, 3, 4]) (isR := []) (isN := [0, 1, 2, 3, 4]) (wr := []) (wn := cMd cI n L a rn sp cnt th (rowF w op tn pl en kd nb) as ln dr M0 M1 M2 M3 M4) (As := [.int (iI b), .int (iI up)]) (rest := [.int (iI 1), .ref M0]) (r := mvO n a w op cnt ln dr pl b up) (ci := 6) (q0 := 0) ⟨hx, hb, hml, hown, hts⟩ (c_X6_obstacleToMove n L a rn sp cnt th w op tn pl en kd nb as ln dr M0 M1 M2 M3 M4 b up (by first | assumption | omega) (by first | assumption | omega) (by first | assumption | omega) (by first | assumption | omega) (by first | assumption | omega) (by first | assumption | omega) (by first | assumption | omega) (by first | assumption | omega) (by first | assumption | omega) (by first | assumption | omega) (by first | assumption | omega) (by first | assumption | omega)) (cwV 2 hts gX6_move_X6_obstacleToMove rfl rfl rfl (by decide +kernel) ⟨Nat.le_of_ble_eq_true rfl, Nat.le_of_ble_eq_true rfl⟩) hK hNW hP hD hS hA rfl rfl rfl rfl (by decide) rfl rfl rfl rfl rfl rfl hl.1 rfl (Nat.le_of_ble_eq_true rfl) dX6_move_15 ⟨Nat.zero_le _, Nat.zero_le _⟩ (fun H locs hP hD hS => ?_)
  have hob := mvO_b n a w op cnt ln dr pl b up
  refine li_if_ne_f (tgt := 25) hx hb dX6_move_18 (by decide) (ib_i (by omega) (by omega)) (by exact hc) ?_
  refine li_const hx hb dX6_move_21 ?_
  refine lv_goto (tgt := 26) hx hb dX6_move_22 (by decide) ?_
  refine li_const hx hb dX6_move_26 ?_
  refine cl_i0 (isC := [0, 1, 2, 3, 4]) (isR := []) (isN := [0, 1, 2, 3, 4]) (wr := []) (wn := cMd cI n L a rn sp cnt (chA 1 1 1) (rowF w op tn pl en kd nb) as ln dr M0 M1 M2 M3 M4) (As := [.int (iI 1), .int (iI 1), .int (iI 1)]) (rest := []) (r := bz (chA 1 1 1 = 0)) (ci := 6) (q0 := 0) ⟨hx, hb, hml, hown, hts⟩ (c_X6_check n L a rn sp cnt th w op tn pl en kd nb as ln dr M0 M1 M2 M3 M4 1 1 1 (by first | decide | exact bz_01 _ | omega) (by first | decide | exact bz_01 _ | omega) (by first | decide | exact bz_01 _ | omega)) (cwV 3 hts gX6_move_X6_check rfl rfl rfl (by decide +kernel) ⟨Nat.le_of_ble_eq_true rfl, Nat.le_of_ble_eq_true rfl⟩) hK hNW hP hD hS hA rfl rfl rfl rfl (by decide) rfl rfl rfl rfl rfl rfl hl.1 rfl (Nat.le_of_ble_eq_true rfl) dX6_move_27 ⟨Nat.zero_le _, Nat.zero_le _⟩ (fun H locs hP hD hS => ?_)
  refine li_top (b := 1) rfl ?_
  refine li_if_ne_t (tgt := 35) hx hb dX6_move_30 (by decide) (by decide) (by decide) ?_
  refine lv_aload_n hx hb dX6_move_35 rfl (lv_at hl 1 rfl) ?_
  refine li_get (ci := 6) (v := .ref M1) (C := RX6) (T := TX6) (N := 11) (q0 := 0) (k := 5) hx hb hts hin_X6 hown hK hP rfl rfl (by decide) hf_9 rfl rfl dX6_move_36 ?_
  refine li_bipush hx hb dX6_move_39 (by decide) ?_
  refine lv_iload_n hx hb dX6_move_41 rfl (lv_at hl 2 rfl) ?_
  refine li_add hx hb dX6_move_42 ?_
  refine lv_aload_n hx hb dX6_move_43 rfl (lv_at hl 1 rfl) ?_
  refine lv_iload_n hx hb dX6_move_44 rfl (lv_at hl 2 rfl) ?_
  refine lv_iload_n hx hb dX6_move_45 rfl (lv_at hl 3 rfl) ?_
  refine cl_i0 (isC := [0, 1, 2, 3, 4]) (isR := []) (isN := [0, 1, 2, 3, 4]) (wr := []) (wn := cMd cI n L a rn sp cnt 0 (rowF w op tn pl en kd nb) as ln dr M0 M1 M2 M3 M4) (As := [.int (iI b), .int (iI up)]) (rest := [.int (iI (23 + b)), .ref M1]) (r := plN pl b up) (ci := 6) (q0 := 0) ⟨hx, hb, hml, hown, hts⟩ (c_X6_target n L a rn sp cnt 0 w op tn pl en kd nb as ln dr M0 M1 M2 M3 M4 b up (by first | assumption | omega) (by first | assumption | omega) (by first | assumption | omega)) (cwV 2 hts gX6_move_X6_target rfl rfl rfl (by decide +kernel) ⟨Nat.le_of_ble_eq_true rfl, Nat.le_of_ble_eq_true rfl⟩) hK hNW hP hD hS hA rfl rfl rfl rfl (by decide) rfl rfl rfl rfl rfl rfl hl.1 rfl (Nat.le_of_ble_eq_true rfl) dX6_move_46 ⟨Nat.zero_le _, Nat.zero_le _⟩ (fun H locs hP hD hS => ?_)
  refine li_iast (q0 := 1) (t0 := 0) (g := (rowF w op tn pl en kd nb)) (w2 := cMd cI n L a rn sp cnt 0 (rowF w op tn (upZ pl b (plN pl b up)) en kd nb) as ln dr M0 M1 M2 M3 M4) hx hb hK hP hD hS rfl rfl (by omega) (by omega) (ib_i (by omega) (by omega)) dX6_move_49 (by rw [wr_p (c := b) (by omega) (by omega) (by omega)] <;> rfl) (fun H locs hP hD hS => ?_)
  refine lv_aload_n hx hb dX6_move_50 rfl (lv_at hl 1 rfl) ?_
  refine li_get (ci := 6) (v := .ref M1) (C := RX6) (T := TX6) (N := 11) (q0 := 0) (k := 5) hx hb hts hin_X6 hown hK hP rfl rfl (by decide) hf_9 rfl rfl dX6_move_51 ?_
  refine li_bipush hx hb dX6_move_54 (by decide) ?_
  refine lv_iload_n hx hb dX6_move_56 rfl (lv_at hl 2 rfl) ?_
  refine li_add hx hb dX6_move_57 ?_
  refine li_iald (q0 := 1) (t0 := 0) (g := (rowF w op tn (upZ pl b (plN pl b up)) en kd nb)) hx hb hK hP rfl rfl (by omega) (by omega) (ib_i (by omega) (by omega)) dX6_move_58 ?_
  refine li_top (b := (upZ pl b (plN pl b up)) b) (rd_p (c := b) (by omega) (by omega) (by omega)) ?_
  exact li_iret () hx hb hr hlocks hK hP hD hS dX6_move_59 hQ rfl (congrArg iI (by exact upZ_s _ _ _))

set_option maxRecDepth 100000 in
set_option maxHeartbeats 4000000 in
theorem c_X6_move_no1 {l : Launch} {D : va_G} {cI cZ cJ : ClassId} (n : Int) (L : Int) (a : Int) (rn : Int) (sp : Int) (cnt : Int) (th : Int) (w : Wt) (op : Int → Int) (tn : Int → Int) (pl : Int → Int) (en : Int) (kd : Int → Int) (nb : Int → Int) (as : Int → Int) (ln : Int → Int) (dr : Int → Int) (M0 M1 M2 M3 M4 : Nat) (b : Int) (up : Int) (hn : 1 ≤ n ∧ n ≤ 6) (hL : 5 ≤ L ∧ L ≤ 40) (ha : 1 ≤ a ∧ a ≤ 50) (hw : WI n L a w) (hop : opB op) (hoz : ∀ g, n < g → op g = 0) (hcnt : 0 ≤ cnt ∧ cnt ≤ 10) (hln : lnB ln) (hdr : lnB dr) (hpi : plI n pl) (hup : up = 0 ∨ up = 1) (i_b : -2147483648 ≤ b ∧ b < 2147483648) (hv : ¬ (0 ≤ b ∧ b ≤ cnt - 1)) : Di l yX6_move wsX6_move 25 [.ref M0, .int (iI b), .int (iI up)] D (ty3 cI cZ cJ) (cMd cI n L a rn sp cnt th (rowF w op tn pl en kd nb) as ln dr M0 M1 M2 M3 M4) (0) (cMd cI n L a rn sp cnt 1 (rowF w op tn pl en kd nb) as ln dr M0 M1 M2 M3 M4) := by
  refine ct_i (plainFor_of_name (by decide)) rfl (Nat.le_of_ble_eq_true rfl) ?_
  intro p e s mI args below meth c_0 ls A hx hb hr hml hts hown hlocks hin hA hP hK hD hNW hS hl Q hQ
  have hown : s.vm.findClass RX6 = some mI.cls := hown
  have hl : lv_has ls 4 [(0, .ref M0), (1, .int (iI b)), (2, .int (iI up))] := hl
  refine lv_aload_n hx hb dX6_move_0 rfl (lv_at hl 0 rfl) ?_
  refine lv_iload_n hx hb dX6_move_1 rfl (lv_at hl 1 rfl) ?_
  refine cl_i0 (isC := [0, 1, 2, 3, 4]) (isR := []) (isN := [0, 1, 2, 3, 4]) (wr := []) (wn := cMd cI n L a rn sp cnt th (rowF w op tn pl en kd nb) as ln dr M0 M1 M2 M3 M4) (As := [.int (iI b)]) (rest := []) (r := bz (0 ≤ b ∧ b ≤ cnt - 1)) (ci := 6) (q0 := 0) ⟨hx, hb, hml, hown, hts⟩ (c_X6_isBoat n L a rn sp cnt th w op tn pl en kd nb as ln dr M0 M1 M2 M3 M4 b (by first | assumption | omega) (by first | assumption | omega)) (cwV 1 hts gX6_move_X6_isBoat rfl rfl rfl (by decide +kernel) ⟨Nat.le_of_ble_eq_true rfl, Nat.le_of_ble_eq_true rfl⟩) hK hNW hP hD hS hA rfl rfl rfl rfl (by decide) rfl rfl rfl rfl rfl rfl hl.1 rfl (Nat.le_of_ble_eq_true rfl) dX6_move_2 ⟨Nat.zero_le _, Nat.zero_le _⟩ (fun H locs hP hD hS => ?_)
  refine li_top (b := 0) (bz_f (by exact hv)) ?_
  refine lv_istore_n (lv' := [(3, .int (iI 0)), (0, .ref M0), (1, .int (iI b)), (2, .int (iI up))]) hx hb dX6_move_5 rfl hl (by decide) rfl (fun ls hl => ?_)
  refine lv_aload_n hx hb dX6_move_6 rfl (lv_at hl 1 rfl) ?_
  refine lv_iload_n hx hb dX6_move_7 rfl (lv_at hl 0 rfl) ?_
  refine lv_iload_n hx hb dX6_move_8 rfl (lv_at hl 0 rfl) ?_
  refine li_if_eq_t (tgt := 21) hx hb dX6_move_9 (by decide) (by decide) (by decide) ?_
  refine li_const hx hb dX6_move_21 ?_
  refine lv_goto (tgt := 26) hx hb dX6_move_22 (by decide) ?_
  refine li_const hx hb dX6_move_26 ?_
  refine cl_i0 (isC := [0, 1, 2, 3, 4]) (isR := []) (isN := [0, 1, 2, 3, 4]) (wr := []) (wn := cMd cI n L a rn sp cnt (chA 0 1 1) (rowF w op tn pl en kd nb) as ln dr M0 M1 M2 M3 M4) (As := [.int (iI 0), .int (iI 1), .int (iI 1)]) (rest := []) (r := bz (chA 0 1 1 = 0)) (ci := 6) (q0 := 0) ⟨hx, hb, hml, hown, hts⟩ (c_X6_check n L a rn sp cnt th w op tn pl en kd nb as ln dr M0 M1 M2 M3 M4 0 1 1 (by first | decide | exact bz_01 _ | omega) (by first | decide | exact bz_01 _ | omega) (by first | decide | exact bz_01 _ | omega)) (cwV 3 hts gX6_move_X6_check rfl rfl rfl (by decide +kernel) ⟨Nat.le_of_ble_eq_true rfl, Nat.le_of_ble_eq_true rfl⟩) hK hNW hP hD hS hA rfl rfl rfl rfl (by decide) rfl rfl rfl rfl rfl rfl hl.1 rfl (Nat.le_of_ble_eq_true rfl) dX6_move_27 ⟨Nat.zero_le _, Nat.zero_le _⟩ (fun H locs hP hD hS => ?_)
  refine li_top (b := 0) rfl ?_
  refine li_if_ne_f (tgt := 35) hx hb dX6_move_30 (by decide) (by decide) (by decide) ?_
  refine li_const hx hb dX6_move_33 ?_
  exact li_iret () hx hb hr hlocks hK hP hD hS dX6_move_34 hQ rfl (congrArg iI (rfl))

set_option maxRecDepth 100000 in
set_option maxHeartbeats 4000000 in
theorem c_X6_move_no2 {l : Launch} {D : va_G} {cI cZ cJ : ClassId} (n : Int) (L : Int) (a : Int) (rn : Int) (sp : Int) (cnt : Int) (th : Int) (w : Wt) (op : Int → Int) (tn : Int → Int) (pl : Int → Int) (en : Int) (kd : Int → Int) (nb : Int → Int) (as : Int → Int) (ln : Int → Int) (dr : Int → Int) (M0 M1 M2 M3 M4 : Nat) (b : Int) (up : Int) (hn : 1 ≤ n ∧ n ≤ 6) (hL : 5 ≤ L ∧ L ≤ 40) (ha : 1 ≤ a ∧ a ≤ 50) (hw : WI n L a w) (hop : opB op) (hoz : ∀ g, n < g → op g = 0) (hcnt : 0 ≤ cnt ∧ cnt ≤ 10) (hln : lnB ln) (hdr : lnB dr) (hpi : plI n pl) (hup : up = 0 ∨ up = 1) (i_b : -2147483648 ≤ b ∧ b < 2147483648) (hv : 0 ≤ b ∧ b ≤ cnt - 1) (hc : mvO n a w op cnt ln dr pl b up ≠ 0) : Di l yX6_move wsX6_move 25 [.ref M0, .int (iI b), .int (iI up)] D (ty3 cI cZ cJ) (cMd cI n L a rn sp cnt th (rowF w op tn pl en kd nb) as ln dr M0 M1 M2 M3 M4) (0) (cMd cI n L a rn sp cnt 2 (rowF w op tn pl en kd nb) as ln dr M0 M1 M2 M3 M4) := by
  refine ct_i (plainFor_of_name (by decide)) rfl (Nat.le_of_ble_eq_true rfl) ?_
  intro p e s mI args below meth c_0 ls A hx hb hr hml hts hown hlocks hin hA hP hK hD hNW hS hl Q hQ
  have hown : s.vm.findClass RX6 = some mI.cls := hown
  have hl : lv_has ls 4 [(0, .ref M0), (1, .int (iI b)), (2, .int (iI up))] := hl
  refine lv_aload_n hx hb dX6_move_0 rfl (lv_at hl 0 rfl) ?_
  refine lv_iload_n hx hb dX6_move_1 rfl (lv_at hl 1 rfl) ?_
  refine cl_i0 (isC := [0, 1, 2, 3, 4]) (isR := []) (isN := [0, 1, 2, 3, 4]) (wr := []) (wn := cMd cI n L a rn sp cnt th (rowF w op tn pl en kd nb) as ln dr M0 M1 M2 M3 M4) (As := [.int (iI b)]) (rest := []) (r := bz (0 ≤ b ∧ b ≤ cnt - 1)) (ci := 6) (q0 := 0) ⟨hx, hb, hml, hown, hts⟩ (c_X6_isBoat n L a rn sp cnt th w op tn pl en kd nb as ln dr M0 M1 M2 M3 M4 b (by first | assumption | omega) (by first | assumption | omega)) (cwV 1 hts gX6_move_X6_isBoat rfl rfl rfl (by decide +kernel) ⟨Nat.le_of_ble_eq_true rfl, Nat.le_of_ble_eq_true rfl⟩) hK hNW hP hD hS hA rfl rfl rfl rfl (by decide) rfl rfl rfl rfl rfl rfl hl.1 rfl (Nat.le_of_ble_eq_true rfl) dX6_move_2 ⟨Nat.zero_le _, Nat.zero_le _⟩ (fun H locs hP hD hS => ?_)
  refine li_top (b := 1) (bz_t (by exact hv)) ?_
  refine lv_istore_n (lv' := [(3, .int (iI 1)), (0, .ref M0), (1, .int (iI b)), (2, .int (iI up))]) hx hb dX6_move_5 rfl hl (by decide) rfl (fun ls hl => ?_)
  refine lv_aload_n hx hb dX6_move_6 rfl (lv_at hl 1 rfl) ?_
  refine lv_iload_n hx hb dX6_move_7 rfl (lv_at hl 0 rfl) ?_
  refine lv_iload_n hx hb dX6_move_8 rfl (lv_at hl 0 rfl) ?_
  refine li_if_eq_f (tgt := 21) hx hb dX6_move_9 (by decide) (by decide) (by decide) ?_
  refine lv_aload_n hx hb dX6_move_12 rfl (lv_at hl 1 rfl) ?_
  refine lv_iload_n hx hb dX6_move_13 rfl (lv_at hl 2 rfl) ?_
  refine lv_iload_n hx hb dX6_move_14 rfl (lv_at hl 3 rfl) ?_
  refine cl_i0 (isC := [0, 1, 2, 3, 4]) (isR := []) (isN := [0, 1, 2, 3, 4]) (wr := []) (wn := cMd cI n L a rn sp cnt th (rowF w op tn pl en kd nb) as ln dr M0 M1 M2 M3 M4) (As := [.int (iI b), .int (iI up)]) (rest := [.int (iI 1), .ref M0]) (r := mvO n a w op cnt ln dr pl b up) (ci := 6) (q0 := 0) ⟨hx, hb, hml, hown, hts⟩ (c_X6_obstacleToMove n L a rn sp cnt th w op tn pl en kd nb as ln dr M0 M1 M2 M3 M4 b up (by first | assumption | omega) (by first | assumption | omega) (by first | assumption | omega) (by first | assumption | omega) (by first | assumption | omega) (by first | assumption | omega) (by first | assumption | omega) (by first | assumption | omega) (by first | assumption | omega) (by first | assumption | omega) (by first | assumption | omega) (by first | assumption | omega)) (cwV 2 hts gX6_move_X6_obstacleToMove rfl rfl rfl (by decide +kernel) ⟨Nat.le_of_ble_eq_true rfl, Nat.le_of_ble_eq_true rfl⟩) hK hNW hP hD hS hA rfl rfl rfl rfl (by decide) rfl rfl rfl rfl rfl rfl hl.1 rfl (Nat.le_of_ble_eq_true rfl) dX6_move_15 ⟨Nat.zero_le _, Nat.zero_le _⟩ (fun H locs hP hD hS => ?_)
  have hob := mvO_b n a w op cnt ln dr pl b up
  refine li_if_ne_t (tgt := 25) hx hb dX6_move_18 (by decide) (ib_i (by omega) (by omega)) (by exact hc) ?_
  refine li_const hx hb dX6_move_25 ?_
  refine li_const hx hb dX6_move_26 ?_
  refine cl_i0 (isC := [0, 1, 2, 3, 4]) (isR := []) (isN := [0, 1, 2, 3, 4]) (wr := []) (wn := cMd cI n L a rn sp cnt (chA 1 0 1) (rowF w op tn pl en kd nb) as ln dr M0 M1 M2 M3 M4) (As := [.int (iI 1), .int (iI 0), .int (iI 1)]) (rest := []) (r := bz (chA 1 0 1 = 0)) (ci := 6) (q0 := 0) ⟨hx, hb, hml, hown, hts⟩ (c_X6_check n L a rn sp cnt th w op tn pl en kd nb as ln dr M0 M1 M2 M3 M4 1 0 1 (by first | decide | exact bz_01 _ | omega) (by first | decide | exact bz_01 _ | omega) (by first | decide | exact bz_01 _ | omega)) (cwV 3 hts gX6_move_X6_check rfl rfl rfl (by decide +kernel) ⟨Nat.le_of_ble_eq_true rfl, Nat.le_of_ble_eq_true rfl⟩) hK hNW hP hD hS hA rfl rfl rfl rfl (by decide) rfl rfl rfl rfl rfl rfl hl.1 rfl (Nat.le_of_ble_eq_true rfl) dX6_move_27 ⟨Nat.zero_le _, Nat.zero_le _⟩ (fun H locs hP hD hS => ?_)
  refine li_top (b := 0) rfl ?_
  refine li_if_ne_f (tgt := 35) hx hb dX6_move_30 (by decide) (by decide) (by decide) ?_
  refine li_const hx hb dX6_move_33 ?_
  exact li_iret () hx hb hr hlocks hK hP hD hS dX6_move_34 hQ rfl (congrArg iI (rfl))

set_option maxRecDepth 100000 in
set_option maxHeartbeats 4000000 in
theorem c_X6_reportKind_ok {l : Launch} {D : va_G} {cI cZ cJ : ClassId} (n : Int) (L : Int) (a : Int) (rn : Int) (sp : Int) (cnt : Int) (th : Int) (w : Wt) (op : Int → Int) (tn : Int → Int) (pl : Int → Int) (en : Int) (kd : Int → Int) (nb : Int → Int) (as : Int → Int) (ln : Int → Int) (dr : Int → Int) (M0 M1 M2 M3 M4 : Nat) (x : Int) (hen : 0 ≤ en ∧ en ≤ 8) (i_x : -2147483648 ≤ x ∧ x < 2147483648) : Di l yX6_reportKind wsX6_reportKind 25 [.ref M0, .int (iI x)] D (ty3 cI cZ cJ) (cMd cI n L a rn sp cnt th (rowF w op tn pl en kd nb) as ln dr M0 M1 M2 M3 M4) (if 0 ≤ x ∧ x ≤ en - 1 then kd x else -1) (cMd cI n L a rn sp cnt 0 (rowF w op tn pl en kd nb) as ln dr M0 M1 M2 M3 M4) := by
  refine ct_i (plainFor_of_name (by decide)) rfl (Nat.le_of_ble_eq_true rfl) ?_
  intro p e s mI args below meth c_0 ls A hx hb hr hml hts hown hlocks hin hA hP hK hD hNW hS hl Q hQ
  have hown : s.vm.findClass RX6 = some mI.cls := hown
  have hl : lv_has ls 2 [(0, .ref M0), (1, .int (iI x))] := hl
  have hin_X6 : ∀ w ∈ wsX60, w ∈ wsX6_reportKind := by decide +kernel
  have hf_40 := hts (.fieldLink RX6 40 "LockStaircaseModel" "thrown" "I") (by decide +kernel)
  have hf_9 := hts (.fieldLink RX6 9 "LockStaircaseModel" "row" "[I") (by decide +kernel)
  refine lv_aload_n hx hb dX6_reportKind_0 rfl (lv_at hl 0 rfl) ?_
  refine li_const hx hb dX6_reportKind_1 ?_
  refine li_put (ci := 6) (v := .int (iI 0)) (ty := .int) (C := RX6) (T := TX6) (N := 11) (q0 := 0) (k := 10) (w2 := cMd cI n L a rn sp cnt 0 (rowF w op tn pl en kd nb) as ln dr M0 M1 M2 M3 M4) hx hb hts hin_X6 tyX6_ok nmX6 hown hK hP hD hS rfl rfl (by decide) hf_40 rfl rfl (by decide +kernel) rfl rfl (Nat.le_of_ble_eq_true rfl) dX6_reportKind_2 rfl (fun H locs hP hD hS => ?_)
  refine lv_iload_n hx hb dX6_reportKind_5 rfl (lv_at hl 1 rfl) ?_
  refine li_const hx hb dX6_reportKind_6 ?_
  refine lv_aload_n hx hb dX6_reportKind_7 rfl (lv_at hl 0 rfl) ?_
  refine li_get (ci := 6) (v := .ref M1) (C := RX6) (T := TX6) (N := 11) (q0 := 0) (k := 5) hx hb hts hin_X6 hown hK hP rfl rfl (by decide) hf_9 rfl rfl dX6_reportKind_8 ?_
  refine li_bipush hx hb dX6_reportKind_11 (by decide) ?_
  refine li_iald (q0 := 1) (t0 := 0) (g := (rowF w op tn pl en kd nb)) hx hb hK hP rfl rfl (by omega) (by omega) (by decide) dX6_reportKind_13 ?_
  refine li_top (b := en) (rd_e rfl) ?_
  refine li_const hx hb dX6_reportKind_14 ?_
  refine li_sub hx hb dX6_reportKind_15 ?_
  refine cs_i0 (isC := []) (isR := [0, 1, 2, 3, 4]) (isN := [0, 1, 2, 3, 4]) (wr := cMd cI n L a rn sp cnt 0 (rowF w op tn pl en kd nb) as ln dr M0 M1 M2 M3 M4) (wn := cMd cI n L a rn sp cnt 0 (rowF w op tn pl en kd nb) as ln dr M0 M1 M2 M3 M4) (As := [.int (iI x), .int (iI 0), .int (iI (en - 1))]) (rest := []) (r := bz (0 ≤ x ∧ x ≤ (en - 1))) ⟨hx, hb, hml, hown, hts⟩ (c_X6_isWithin x 0 (en - 1) (by first | assumption | omega) (by first | assumption | omega) (by first | assumption | omega)) (va_cwS 3 hts gX6_reportKind_X6_isWithin rfl rfl rfl (by decide +kernel) ⟨Nat.le_of_ble_eq_true rfl, Nat.le_of_ble_eq_true rfl⟩) hK hNW hP hD hS hA rfl rfl rfl rfl (by decide) rfl rfl rfl hl.1 rfl (Nat.le_of_ble_eq_true rfl) dX6_reportKind_16 ⟨Nat.zero_le _, Nat.zero_le _⟩ (fun H locs hP hD hS => ?_)
  refine li_ifb_eq (tgt := 34) hx hb dX6_reportKind_19 (by decide) (fun c_19 => ?_) (fun c_19 => ?_)
  · refine li_const hx hb dX6_reportKind_34 ?_
    exact li_iret () hx hb hr hlocks hK hP hD hS dX6_reportKind_35 hQ rfl (congrArg iI (by first | rw [if_pos (by assumption)] | rw [if_neg (by assumption)]))
  · refine lv_aload_n hx hb dX6_reportKind_22 rfl (lv_at hl 0 rfl) ?_
    refine li_get (ci := 6) (v := .ref M1) (C := RX6) (T := TX6) (N := 11) (q0 := 0) (k := 5) hx hb hts hin_X6 hown hK hP rfl rfl (by decide) hf_9 rfl rfl dX6_reportKind_23 ?_
    refine li_bipush hx hb dX6_reportKind_26 (by decide) ?_
    refine lv_iload_n hx hb dX6_reportKind_28 rfl (lv_at hl 1 rfl) ?_
    refine li_add hx hb dX6_reportKind_29 ?_
    refine li_iald (q0 := 1) (t0 := 0) (g := (rowF w op tn pl en kd nb)) hx hb hK hP rfl rfl (by omega) (by omega) (ib_i (by omega) (by omega)) dX6_reportKind_30 ?_
    refine li_top (b := kd x) (rd_k (c := x) (by omega) (by omega) (by omega)) ?_
    refine lv_goto (tgt := 35) hx hb dX6_reportKind_31 (by decide) ?_
    exact li_iret () hx hb hr hlocks hK hP hD hS dX6_reportKind_35 hQ rfl (congrArg iI (by first | rw [if_pos (by assumption)] | rw [if_neg (by assumption)]))

set_option maxRecDepth 100000 in
set_option maxHeartbeats 4000000 in
theorem c_X6_reportNumber_ok {l : Launch} {D : va_G} {cI cZ cJ : ClassId} (n : Int) (L : Int) (a : Int) (rn : Int) (sp : Int) (cnt : Int) (th : Int) (w : Wt) (op : Int → Int) (tn : Int → Int) (pl : Int → Int) (en : Int) (kd : Int → Int) (nb : Int → Int) (as : Int → Int) (ln : Int → Int) (dr : Int → Int) (M0 M1 M2 M3 M4 : Nat) (x : Int) (hen : 0 ≤ en ∧ en ≤ 8) (i_x : -2147483648 ≤ x ∧ x < 2147483648) : Di l yX6_reportNumber wsX6_reportNumber 25 [.ref M0, .int (iI x)] D (ty3 cI cZ cJ) (cMd cI n L a rn sp cnt th (rowF w op tn pl en kd nb) as ln dr M0 M1 M2 M3 M4) (if 0 ≤ x ∧ x ≤ en - 1 then nb x else -1) (cMd cI n L a rn sp cnt 0 (rowF w op tn pl en kd nb) as ln dr M0 M1 M2 M3 M4) := by
  refine ct_i (plainFor_of_name (by decide)) rfl (Nat.le_of_ble_eq_true rfl) ?_
  intro p e s mI args below meth c_0 ls A hx hb hr hml hts hown hlocks hin hA hP hK hD hNW hS hl Q hQ
  have hown : s.vm.findClass RX6 = some mI.cls := hown
  have hl : lv_has ls 2 [(0, .ref M0), (1, .int (iI x))] := hl
  have hin_X6 : ∀ w ∈ wsX60, w ∈ wsX6_reportNumber := by decide +kernel
  have hf_40 := hts (.fieldLink RX6 40 "LockStaircaseModel" "thrown" "I") (by decide +kernel)
  have hf_9 := hts (.fieldLink RX6 9 "LockStaircaseModel" "row" "[I") (by decide +kernel)
  refine lv_aload_n hx hb dX6_reportNumber_0 rfl (lv_at hl 0 rfl) ?_
  refine li_const hx hb dX6_reportNumber_1 ?_
  refine li_put (ci := 6) (v := .int (iI 0)) (ty := .int) (C := RX6) (T := TX6) (N := 11) (q0 := 0) (k := 10) (w2 := cMd cI n L a rn sp cnt 0 (rowF w op tn pl en kd nb) as ln dr M0 M1 M2 M3 M4) hx hb hts hin_X6 tyX6_ok nmX6 hown hK hP hD hS rfl rfl (by decide) hf_40 rfl rfl (by decide +kernel) rfl rfl (Nat.le_of_ble_eq_true rfl) dX6_reportNumber_2 rfl (fun H locs hP hD hS => ?_)
  refine lv_iload_n hx hb dX6_reportNumber_5 rfl (lv_at hl 1 rfl) ?_
  refine li_const hx hb dX6_reportNumber_6 ?_
  refine lv_aload_n hx hb dX6_reportNumber_7 rfl (lv_at hl 0 rfl) ?_
  refine li_get (ci := 6) (v := .ref M1) (C := RX6) (T := TX6) (N := 11) (q0 := 0) (k := 5) hx hb hts hin_X6 hown hK hP rfl rfl (by decide) hf_9 rfl rfl dX6_reportNumber_8 ?_
  refine li_bipush hx hb dX6_reportNumber_11 (by decide) ?_
  refine li_iald (q0 := 1) (t0 := 0) (g := (rowF w op tn pl en kd nb)) hx hb hK hP rfl rfl (by omega) (by omega) (by decide) dX6_reportNumber_13 ?_
  refine li_top (b := en) (rd_e rfl) ?_
  refine li_const hx hb dX6_reportNumber_14 ?_
  refine li_sub hx hb dX6_reportNumber_15 ?_
  refine cs_i0 (isC := []) (isR := [0, 1, 2, 3, 4]) (isN := [0, 1, 2, 3, 4]) (wr := cMd cI n L a rn sp cnt 0 (rowF w op tn pl en kd nb) as ln dr M0 M1 M2 M3 M4) (wn := cMd cI n L a rn sp cnt 0 (rowF w op tn pl en kd nb) as ln dr M0 M1 M2 M3 M4) (As := [.int (iI x), .int (iI 0), .int (iI (en - 1))]) (rest := []) (r := bz (0 ≤ x ∧ x ≤ (en - 1))) ⟨hx, hb, hml, hown, hts⟩ (c_X6_isWithin x 0 (en - 1) (by first | assumption | omega) (by first | assumption | omega) (by first | assumption | omega)) (va_cwS 3 hts gX6_reportNumber_X6_isWithin rfl rfl rfl (by decide +kernel) ⟨Nat.le_of_ble_eq_true rfl, Nat.le_of_ble_eq_true rfl⟩) hK hNW hP hD hS hA rfl rfl rfl rfl (by decide) rfl rfl rfl hl.1 rfl (Nat.le_of_ble_eq_true rfl) dX6_reportNumber_16 ⟨Nat.zero_le _, Nat.zero_le _⟩ (fun H locs hP hD hS => ?_)
  refine li_ifb_eq (tgt := 34) hx hb dX6_reportNumber_19 (by decide) (fun c_19 => ?_) (fun c_19 => ?_)
  · refine li_const hx hb dX6_reportNumber_34 ?_
    exact li_iret () hx hb hr hlocks hK hP hD hS dX6_reportNumber_35 hQ rfl (congrArg iI (by first | rw [if_pos (by assumption)] | rw [if_neg (by assumption)]))
  · refine lv_aload_n hx hb dX6_reportNumber_22 rfl (lv_at hl 0 rfl) ?_
    refine li_get (ci := 6) (v := .ref M1) (C := RX6) (T := TX6) (N := 11) (q0 := 0) (k := 5) hx hb hts hin_X6 hown hK hP rfl rfl (by decide) hf_9 rfl rfl dX6_reportNumber_23 ?_
    refine li_bipush hx hb dX6_reportNumber_26 (by decide) ?_
    refine lv_iload_n hx hb dX6_reportNumber_28 rfl (lv_at hl 1 rfl) ?_
    refine li_add hx hb dX6_reportNumber_29 ?_
    refine li_iald (q0 := 1) (t0 := 0) (g := (rowF w op tn pl en kd nb)) hx hb hK hP rfl rfl (by omega) (by omega) (ib_i (by omega) (by omega)) dX6_reportNumber_30 ?_
    refine li_top (b := nb x) (rd_b (c := x) (by omega) (by omega) (by omega)) ?_
    refine lv_goto (tgt := 35) hx hb dX6_reportNumber_31 (by decide) ?_
    exact li_iret () hx hb hr hlocks hK hP hD hS dX6_reportNumber_35 hQ rfl (congrArg iI (by first | rw [if_pos (by assumption)] | rw [if_neg (by assumption)]))

set_option maxRecDepth 100000 in
set_option maxHeartbeats 4000000 in
theorem c_X6_isConsistent_ok {l : Launch} {D : va_G} {cI cZ cJ : ClassId} (n : Int) (L : Int) (a : Int) (rn : Int) (sp : Int) (cnt : Int) (th : Int) (w : Wt) (op : Int → Int) (tn : Int → Int) (pl : Int → Int) (en : Int) (kd : Int → Int) (nb : Int → Int) (as : Int → Int) (ln : Int → Int) (dr : Int → Int) (M0 M1 M2 M3 M4 : Nat) (hn : 1 ≤ n ∧ n ≤ 6) (hL : 5 ≤ L ∧ L ≤ 40) (ha : 1 ≤ a ∧ a ≤ 50) (hw : WI n L a w) (hop : opB op) (hoz : ∀ g, n < g → op g = 0) (htn : tnB tn) (htz : ∀ g, n < g → tn g = 0) (hcnt : 0 ≤ cnt ∧ cnt ≤ 10) (hln : lnB ln) (hpi : plI n pl) (hgh : ∀ g, 0 ≤ g → g ≤ n → isO op g = true → hdA n L a w g = 0 ∧ beS tn g = false) (hbf : ∀ x, 1 ≤ x → x ≤ n → sumZ (lenP pl ln x) cnt.toNat ≤ 60) (hbal : w.1 + w.2.1 + sp - rn + sumZ w.2.2.2 n.toNat = 20 * a) : Di l yX6_isConsistent wsX6_isConsistent 25 [.ref M0] D (ty3 cI cZ cJ) (cMd cI n L a rn sp cnt th (rowF w op tn pl en kd nb) as ln dr M0 M1 M2 M3 M4) (1) (cMd cI n L a rn sp cnt 0 (rowF w op tn pl en kd nb) as ln dr M0 M1 M2 M3 M4) := by
  refine ct_i (plainFor_of_name (by decide)) rfl (Nat.le_of_ble_eq_true rfl) ?_
  intro p e s mI args below meth c_0 ls A hx hb hr hml hts hown hlocks hin hA hP hK hD hNW hS hl Q hQ
  have hown : s.vm.findClass RX6 = some mI.cls := hown
  have hl : lv_has ls 3 [(0, .ref M0)] := hl
  have hin_X6 : ∀ w ∈ wsX60, w ∈ wsX6_isConsistent := by decide +kernel
  have hf_148 := hts (.fieldLink RX6 148 "LockStaircaseModel" "rained" "I") (by decide +kernel)
  have hf_151 := hts (.fieldLink RX6 151 "LockStaircaseModel" "spilled" "I") (by decide +kernel)
  have hf_26 := hts (.fieldLink RX6 26 "LockStaircaseModel" "chambers" "I") (by decide +kernel)
  have hf_30 := hts (.fieldLink RX6 30 "LockStaircaseModel" "lift" "I") (by decide +kernel)
  have hf_40 := hts (.fieldLink RX6 40 "LockStaircaseModel" "thrown" "I") (by decide +kernel)
  have hf_9 := hts (.fieldLink RX6 9 "LockStaircaseModel" "row" "[I") (by decide +kernel)
  refine lv_aload_n hx hb dX6_isConsistent_0 rfl (lv_at hl 0 rfl) ?_
  refine li_const hx hb dX6_isConsistent_1 ?_
  refine li_put (ci := 6) (v := .int (iI 0)) (ty := .int) (C := RX6) (T := TX6) (N := 11) (q0 := 0) (k := 10) (w2 := cMd cI n L a rn sp cnt 0 (rowF w op tn pl en kd nb) as ln dr M0 M1 M2 M3 M4) hx hb hts hin_X6 tyX6_ok nmX6 hown hK hP hD hS rfl rfl (by decide) hf_40 rfl rfl (by decide +kernel) rfl rfl (Nat.le_of_ble_eq_true rfl) dX6_isConsistent_2 rfl (fun H locs hP hD hS => ?_)
  refine lv_aload_n hx hb dX6_isConsistent_5 rfl (lv_at hl 0 rfl) ?_
  refine li_get (ci := 6) (v := .ref M1) (C := RX6) (T := TX6) (N := 11) (q0 := 0) (k := 5) hx hb hts hin_X6 hown hK hP rfl rfl (by decide) hf_9 rfl rfl dX6_isConsistent_6 ?_
  refine li_const hx hb dX6_isConsistent_9 ?_
  refine li_iald (q0 := 1) (t0 := 0) (g := (rowF w op tn pl en kd nb)) hx hb hK hP rfl rfl (by omega) (by omega) (by decide) dX6_isConsistent_10 ?_
  refine li_top (b := w.1) (rd_W rfl) ?_
  refine lv_aload_n hx hb dX6_isConsistent_11 rfl (lv_at hl 0 rfl) ?_
  refine li_get (ci := 6) (v := .ref M1) (C := RX6) (T := TX6) (N := 11) (q0 := 0) (k := 5) hx hb hts hin_X6 hown hK hP rfl rfl (by decide) hf_9 rfl rfl dX6_isConsistent_12 ?_
  refine li_const hx hb dX6_isConsistent_15 ?_
  refine li_iald (q0 := 1) (t0 := 0) (g := (rowF w op tn pl en kd nb)) hx hb hK hP rfl rfl (by omega) (by omega) (by decide) dX6_isConsistent_16 ?_
  refine li_top (b := w.2.1) (rd_Q rfl) ?_
  refine li_add hx hb dX6_isConsistent_17 ?_
  refine lv_aload_n hx hb dX6_isConsistent_18 rfl (lv_at hl 0 rfl) ?_
  refine li_get (ci := 6) (v := .int (iI sp)) (C := RX6) (T := TX6) (N := 11) (q0 := 0) (k := 4) hx hb hts hin_X6 hown hK hP rfl rfl (by decide) hf_151 rfl rfl dX6_isConsistent_19 ?_
  refine li_add hx hb dX6_isConsistent_22 ?_
  refine lv_aload_n hx hb dX6_isConsistent_23 rfl (lv_at hl 0 rfl) ?_
  refine li_get (ci := 6) (v := .int (iI rn)) (C := RX6) (T := TX6) (N := 11) (q0 := 0) (k := 3) hx hb hts hin_X6 hown hK hP rfl rfl (by decide) hf_148 rfl rfl dX6_isConsistent_24 ?_
  refine li_sub hx hb dX6_isConsistent_27 ?_
  refine lv_istore_n (lv' := [(1, .int (iI (((w.1 + w.2.1) + sp) - rn))), (0, .ref M0)]) hx hb dX6_isConsistent_28 rfl hl (by decide) rfl (fun ls hl => ?_)
  refine li_const hx hb dX6_isConsistent_29 ?_
  refine lv_istore_n (lv' := [(2, .int (iI 0)), (1, .int (iI (((w.1 + w.2.1) + sp) - rn))), (0, .ref M0)]) hx hb dX6_isConsistent_30 rfl hl (by decide) rfl (fun ls hl => ?_)
  have loop_31 : ∀ (N : Nat) (j : Int) (sv : Int), (0 ≤ j ∧ j ≤ n) → (sv = w.1 + w.2.1 + sp - rn + sumZ w.2.2.2 j.toNat) → n - j < (N : Int) → ∀ (H : Heap) (locs : List Loc), va_P D vwCl (cMd cI n L a rn sp cnt 0 (rowF w op tn pl en kd nb) as ln dr M0 M1 M2 M3 M4) H → va_D A (cMd cI n L a rn sp cnt 0 (rowF w op tn pl en kd nb) as ln dr M0 M1 M2 M3 M4) → va_S A s.heap H locs → ∀ (ls : Array Slot), lv_has ls 3 [(2, .int (iI j)), (1, .int (iI sv)), (0, .ref M0)] → W p l e (rK 25 0 0) s mI args below meth c_0 H locs 0 0 Q (F0 mI 31 ls []) := by
    intro N
    induction N with
    | zero =>
      intro j sv hj hh hN
      exact absurd hN (by omega)
    | succ N ih =>
      intro j sv hj hh hN H locs hP hD hS ls hl
      refine lv_iload_n hx hb dX6_isConsistent_31 rfl (lv_at hl 0 rfl) ?_
      refine lv_aload_n hx hb dX6_isConsistent_32 rfl (lv_at hl 2 rfl) ?_
      refine li_get (ci := 6) (v := .int (iI n)) (C := RX6) (T := TX6) (N := 11) (q0 := 0) (k := 0) hx hb hts hin_X6 hown hK hP rfl rfl (by decide) hf_26 rfl rfl dX6_isConsistent_33 ?_
      refine li_icmp_ge (tgt := 87) hx hb dX6_isConsistent_36 (by decide) (ib_i (by omega) (by omega)) (ib_i (by omega) (by omega)) (fun c_36 => ?_) (fun c_36 => ?_)
      · refine li_const hx hb dX6_isConsistent_87 ?_
        refine lv_istore_n (lv' := [(2, .int (iI 0)), (1, .int (iI sv)), (0, .ref M0)]) hx hb dX6_isConsistent_88 rfl hl (by decide) rfl (fun ls hl => ?_)
        have loop_89 : ∀ (N : Nat) (g : Int), (0 ≤ g ∧ g ≤ n + 1) → n + 1 - g < (N : Int) → ∀ (H : Heap) (locs : List Loc), va_P D vwCl (cMd cI n L a rn sp cnt 0 (rowF w op tn pl en kd nb) as ln dr M0 M1 M2 M3 M4) H → va_D A (cMd cI n L a rn sp cnt 0 (rowF w op tn pl en kd nb) as ln dr M0 M1 M2 M3 M4) → va_S A s.heap H locs → ∀ (ls : Array Slot), lv_has ls 3 [(2, .int (iI g)), (1, .int (iI sv)), (0, .ref M0)] → W p l e (rK 25 0 0) s mI args below meth c_0 H locs 0 0 Q (F0 mI 89 ls []) := by
          intro N
          induction N with
          | zero =>
            intro g hg hN
            exact absurd hN (by omega)
          | succ N ih =>
            intro g hg hN H locs hP hD hS ls hl
            refine lv_iload_n hx hb dX6_isConsistent_89 rfl (lv_at hl 0 rfl) ?_
            refine lv_aload_n hx hb dX6_isConsistent_90 rfl (lv_at hl 2 rfl) ?_
            refine li_get (ci := 6) (v := .int (iI n)) (C := RX6) (T := TX6) (N := 11) (q0 := 0) (k := 0) hx hb hts hin_X6 hown hK hP rfl rfl (by decide) hf_26 rfl rfl dX6_isConsistent_91 ?_
            refine li_icmp_gt (tgt := 113) hx hb dX6_isConsistent_94 (by decide) (ib_i (by omega) (by omega)) (ib_i (by omega) (by omega)) (fun c_94 => ?_) (fun c_94 => ?_)
            · refine lv_iload_n hx hb dX6_isConsistent_113 rfl (lv_at hl 1 rfl) ?_
              refine lv_aload_n hx hb dX6_isConsistent_114 rfl (lv_at hl 2 rfl) ?_
              refine cl_i0 (isC := [0, 1, 2, 3, 4]) (isR := []) (isN := [0, 1, 2, 3, 4]) (wr := []) (wn := cMd cI n L a rn sp cnt 0 (rowF w op tn pl en kd nb) as ln dr M0 M1 M2 M3 M4) (As := []) (rest := [.int (iI sv)]) (r := 20 * a) (ci := 6) (q0 := 0) ⟨hx, hb, hml, hown, hts⟩ (c_X6_full n L a rn sp cnt 0 w op tn pl en kd nb as ln dr M0 M1 M2 M3 M4 ) (cwV 0 hts gX6_isConsistent_X6_full rfl rfl rfl (by decide +kernel) ⟨Nat.le_of_ble_eq_true rfl, Nat.le_of_ble_eq_true rfl⟩) hK hNW hP hD hS hA rfl rfl rfl rfl (by decide) rfl rfl rfl rfl rfl rfl hl.1 rfl (Nat.le_of_ble_eq_true rfl) dX6_isConsistent_115 ⟨Nat.zero_le _, Nat.zero_le _⟩ (fun H locs hP hD hS => ?_)
              refine li_icmp_ne_s (tgt := 125) hx hb dX6_isConsistent_118 (by decide) (by rw [hh, show j = n by omega]; exact hbal) ?_
              refine li_const hx hb dX6_isConsistent_121 ?_
              refine lv_goto (tgt := 126) hx hb dX6_isConsistent_122 (by decide) ?_
              exact li_zret () hx hb hr hlocks hK hP hD hS (by decide) dX6_isConsistent_126 hQ rfl (congrArg iI (rfl))
            · refine lv_aload_n hx hb dX6_isConsistent_97 rfl (lv_at hl 2 rfl) ?_
              refine lv_iload_n hx hb dX6_isConsistent_98 rfl (lv_at hl 0 rfl) ?_
              refine cl_i0 (isC := [0, 1, 2, 3, 4]) (isR := []) (isN := [0, 1, 2, 3, 4]) (wr := []) (wn := cMd cI n L a rn sp cnt 0 (rowF w op tn pl en kd nb) as ln dr M0 M1 M2 M3 M4) (As := [.int (iI g)]) (rest := []) (r := 1) (ci := 6) (q0 := 0) ⟨hx, hb, hml, hown, hts⟩ (c_X6_isGateRight n L a rn sp cnt 0 w op tn pl en kd nb as ln dr M0 M1 M2 M3 M4 g (by first | assumption | omega) (by first | assumption | omega) (by first | assumption | omega) (by first | assumption | omega) (by first | assumption | omega) (by first | assumption | omega) (by first | assumption | omega) (by first | assumption | omega) (by first | assumption | omega) (by exact hgh g (by omega) (by omega))) (cwV 1 hts gX6_isConsistent_X6_isGateRight rfl rfl rfl (by decide +kernel) ⟨Nat.le_of_ble_eq_true rfl, Nat.le_of_ble_eq_true rfl⟩) hK hNW hP hD hS hA rfl rfl rfl rfl (by decide) rfl rfl rfl rfl rfl rfl hl.1 rfl (Nat.le_of_ble_eq_true rfl) dX6_isConsistent_99 ⟨Nat.zero_le _, Nat.zero_le _⟩ (fun H locs hP hD hS => ?_)
              refine li_if_ne_t (tgt := 107) hx hb dX6_isConsistent_102 (by decide) (by decide) (by decide) ?_
              refine li_inc (j := 0) (lv' := [(2, .int (iI (g + 1))), (1, .int (iI sv)), (0, .ref M0)]) hx hb dX6_isConsistent_107 hl rfl (by decide) rfl (fun ls hl => ?_)
              refine lv_goto (tgt := 89) hx hb dX6_isConsistent_110 (by decide) ?_
              exact ih (g + 1) (by omega) (by omega) _ _ hP hD hS _ (lv_sub hl [0, 1, 2] rfl)
        exact loop_89 (((n + 1 - 0) : Int) + 1).toNat 0 (by omega) (by omega) _ _ hP hD hS _ (lv_sub hl [0, 1, 2] rfl)
      · have u1 := hw.2 j (by omega) (by omega)
        have hbj := hbf (j + 1) (by omega) (by omega)
        have hbk := lenS_b (pl := pl) hln (j + 1) hcnt.1 hcnt.2
        refine lv_iload_n hx hb dX6_isConsistent_39 rfl (lv_at hl 1 rfl) ?_
        refine lv_aload_n hx hb dX6_isConsistent_40 rfl (lv_at hl 2 rfl) ?_
        refine li_get (ci := 6) (v := .ref M1) (C := RX6) (T := TX6) (N := 11) (q0 := 0) (k := 5) hx hb hts hin_X6 hown hK hP rfl rfl (by decide) hf_9 rfl rfl dX6_isConsistent_41 ?_
        refine li_const hx hb dX6_isConsistent_44 ?_
        refine lv_iload_n hx hb dX6_isConsistent_45 rfl (lv_at hl 0 rfl) ?_
        refine li_add hx hb dX6_isConsistent_46 ?_
        refine li_iald (q0 := 1) (t0 := 0) (g := (rowF w op tn pl en kd nb)) hx hb hK hP rfl rfl (by omega) (by omega) (ib_i (by omega) (by omega)) dX6_isConsistent_47 ?_
        refine li_top (b := w.2.2.2 j) (rd_u (c := j) (by omega) (by omega) (by omega)) ?_
        refine li_add hx hb dX6_isConsistent_48 ?_
        refine lv_istore_n (lv' := [(1, .int (iI (sv + (w.2.2.2 j)))), (2, .int (iI j)), (0, .ref M0)]) hx hb dX6_isConsistent_49 rfl hl (by decide) rfl (fun ls hl => ?_)
        refine lv_aload_n hx hb dX6_isConsistent_50 rfl (lv_at hl 2 rfl) ?_
        refine li_get (ci := 6) (v := .ref M1) (C := RX6) (T := TX6) (N := 11) (q0 := 0) (k := 5) hx hb hts hin_X6 hown hK hP rfl rfl (by decide) hf_9 rfl rfl dX6_isConsistent_51 ?_
        refine li_const hx hb dX6_isConsistent_54 ?_
        refine lv_iload_n hx hb dX6_isConsistent_55 rfl (lv_at hl 1 rfl) ?_
        refine li_add hx hb dX6_isConsistent_56 ?_
        refine li_iald (q0 := 1) (t0 := 0) (g := (rowF w op tn pl en kd nb)) hx hb hK hP rfl rfl (by omega) (by omega) (ib_i (by omega) (by omega)) dX6_isConsistent_57 ?_
        refine li_top (b := w.2.2.2 j) (rd_u (c := j) (by omega) (by omega) (by omega)) ?_
        refine li_const hx hb dX6_isConsistent_58 ?_
        refine lv_aload_n hx hb dX6_isConsistent_59 rfl (lv_at hl 2 rfl) ?_
        refine li_get (ci := 6) (v := .int (iI L)) (C := RX6) (T := TX6) (N := 11) (q0 := 0) (k := 1) hx hb hts hin_X6 hown hK hP rfl rfl (by decide) hf_30 rfl rfl dX6_isConsistent_60 ?_
        refine cs_i0 (isC := []) (isR := [0, 1, 2, 3, 4]) (isN := [0, 1, 2, 3, 4]) (wr := cMd cI n L a rn sp cnt 0 (rowF w op tn pl en kd nb) as ln dr M0 M1 M2 M3 M4) (wn := cMd cI n L a rn sp cnt 0 (rowF w op tn pl en kd nb) as ln dr M0 M1 M2 M3 M4) (As := [.int (iI (w.2.2.2 j)), .int (iI 0), .int (iI L)]) (rest := []) (r := bz (0 ≤ (w.2.2.2 j) ∧ (w.2.2.2 j) ≤ L)) ⟨hx, hb, hml, hown, hts⟩ (c_X6_isWithin (w.2.2.2 j) 0 L (by first | assumption | omega) (by first | assumption | omega) (by first | assumption | omega)) (va_cwS 3 hts gX6_isConsistent_X6_isWithin rfl rfl rfl (by decide +kernel) ⟨Nat.le_of_ble_eq_true rfl, Nat.le_of_ble_eq_true rfl⟩) hK hNW hP hD hS hA rfl rfl rfl rfl (by decide) rfl rfl rfl hl.1 rfl (Nat.le_of_ble_eq_true rfl) dX6_isConsistent_63 ⟨Nat.zero_le _, Nat.zero_le _⟩ (fun H locs hP hD hS => ?_)
        refine li_top (b := 1) (bz_t (by exact hw.2 j (by omega) (by omega))) ?_
        refine li_if_eq_f (tgt := 79) hx hb dX6_isConsistent_66 (by decide) (by decide) (by decide) ?_
        refine lv_aload_n hx hb dX6_isConsistent_69 rfl (lv_at hl 2 rfl) ?_
        refine lv_iload_n hx hb dX6_isConsistent_70 rfl (lv_at hl 1 rfl) ?_
        refine cl_i0 (isC := [0, 1, 2, 3, 4]) (isR := []) (isN := [0, 1, 2, 3, 4]) (wr := []) (wn := cMd cI n L a rn sp cnt 0 (rowF w op tn pl en kd nb) as ln dr M0 M1 M2 M3 M4) (As := [.int (iI j)]) (rest := []) (r := sumZ (lenP pl ln (j + 1)) cnt.toNat) (ci := 6) (q0 := 0) ⟨hx, hb, hml, hown, hts⟩ (c_X6_lengthIn n L a rn sp cnt 0 w op tn pl en kd nb as ln dr M0 M1 M2 M3 M4 j (by first | assumption | omega) (by first | assumption | omega) (by first | assumption | omega) (by first | assumption | omega) (by first | assumption | omega) (by first | assumption | omega)) (cwV 1 hts gX6_isConsistent_X6_lengthIn rfl rfl rfl (by decide +kernel) ⟨Nat.le_of_ble_eq_true rfl, Nat.le_of_ble_eq_true rfl⟩) hK hNW hP hD hS hA rfl rfl rfl rfl (by decide) rfl rfl rfl rfl rfl rfl hl.1 rfl (Nat.le_of_ble_eq_true rfl) dX6_isConsistent_71 ⟨Nat.zero_le _, Nat.zero_le _⟩ (fun H locs hP hD hS => ?_)
        refine li_bipush hx hb dX6_isConsistent_74 (by decide) ?_
        refine li_icmp_le_t (tgt := 81) hx hb dX6_isConsistent_76 (by decide) (ib_i (by omega) (by omega)) (by decide) (by exact hbj) ?_
        refine li_inc (j := 1) (lv' := [(2, .int (iI (j + 1))), (1, .int (iI (sv + (w.2.2.2 j)))), (0, .ref M0)]) hx hb dX6_isConsistent_81 hl rfl (by decide) rfl (fun ls hl => ?_)
        refine lv_goto (tgt := 31) hx hb dX6_isConsistent_84 (by decide) ?_
        exact ih (j + 1) (sv + (w.2.2.2 j)) (by omega) (by rw [sumZ_s _ hj.1]; omega) (by omega) _ _ hP hD hS _ (lv_sub hl [0, 1, 2] rfl)
  exact loop_31 (((n - 0) : Int) + 1).toNat 0 (((w.1 + w.2.1) + sp) - rn) (by omega) (by rw [sumZ_0]; omega) (by omega) _ _ hP hD hS _ (lv_sub hl [0, 1, 2] rfl)
