set_option maxRecDepth 100000 in
set_option maxHeartbeats 4000000 in
theorem c_X2_poundPlace {l : Launch} {D : va_G} {cI cZ cJ : ClassId} (n : Int) (L : Int) (a : Int) (gd : Int) (w : Wt) (L0 W0 W1 G0 B0 P0 : Nat) (hn : 1 ≤ n ∧ n ≤ 6) (hL : 5 ≤ L ∧ L ≤ 40) (ha : 1 ≤ a ∧ a ≤ 50) : Di l yX2_poundPlace wsX2_poundPlace 2 [.ref L0] D (ty3 cI cZ cJ) (cLa   L0 W0 G0 B0 P0 ++ cWa cI n L a gd w W0 W1) (n + 1) (cLa   L0 W0 G0 B0 P0 ++ cWa cI n L a gd w W0 W1) := by
  refine ct_i (plainFor_of_name (by decide)) rfl (Nat.le_of_ble_eq_true rfl) ?_
  intro p e s mI args below meth c_0 ls A hx hb hr hml hts hown hlocks hin hA hP hK hD hNW hS hl Q hQ
  have hown : s.vm.findClass RX2 = some mI.cls := hown
  have hl : lv_has ls 1 [(0, .ref L0)] := hl
  have hin_X2 : ∀ w ∈ wsX20, w ∈ wsX2_poundPlace := by decide +kernel
  have hf_37 := hts (.fieldLink RX2 37 "LockStaircase$Ladder" "water" "LLockStaircase$Water;") (by decide +kernel)
  refine lv_aload_n hx hb dX2_poundPlace_0 rfl (lv_at hl 0 rfl) ?_
  refine li_get (ci := 2) (v := .ref W0) (C := RX2) (T := TX2) (N := 4) (q0 := 0) (k := 0) hx hb hts hin_X2 hown hK hP rfl rfl (by decide) hf_37 rfl rfl dX2_poundPlace_1 ?_
  refine cl_i0 (isC := [1, 2]) (isR := [0]) (isN := [0, 1, 2]) (wr := cLa   L0 W0 G0 B0 P0) (wn := cLa   L0 W0 G0 B0 P0 ++ cWa cI n L a gd w W0 W1) (As := []) (rest := []) (r := n) (ci := 4) (q0 := 0) ⟨hx, hb, hml, hown, hts⟩ (c_X4_count n L a gd w W0 W1 (by first | assumption | omega) (by first | assumption | omega) (by first | assumption | omega)) (cwV 0 hts gX2_poundPlace_X4_count rfl rfl rfl (by decide +kernel) ⟨Nat.le_of_ble_eq_true rfl, Nat.le_of_ble_eq_true rfl⟩) hK hNW hP hD hS hA rfl rfl rfl rfl (by decide) rfl rfl rfl rfl rfl rfl hl.1 rfl (Nat.le_of_ble_eq_true rfl) dX2_poundPlace_4 ⟨Nat.zero_le _, Nat.zero_le _⟩ (fun H locs hP hD hS => ?_)
  refine li_const hx hb dX2_poundPlace_7 ?_
  refine li_add hx hb dX2_poundPlace_8 ?_
  exact li_iret () hx hb hr hlocks hK hP hD hS dX2_poundPlace_9 hQ rfl (congrArg iI (rfl))

set_option maxRecDepth 100000 in
set_option maxHeartbeats 4000000 in
theorem c_X2_nextPlace {l : Launch} {D : va_G} {cI cZ cJ : ClassId} (cnt : Int) (ln : Int → Int) (dr : Int → Int) (pl : Int → Int) (L0 B0 B1 B2 B3 W0 G0 P0 : Nat) (b : Int) (up : Int) (hcnt : 0 ≤ cnt ∧ cnt ≤ 10) (hbt : 0 ≤ b ∧ b < cnt) (hup : up = 0 ∨ up = 1) : Di l yX2_nextPlace wsX2_nextPlace 2 [.ref L0, .int (iI b), .int (iI up)] D (ty3 cI cZ cJ) (cLa   L0 W0 G0 B0 P0 ++ cFl cI cnt ln dr pl B0 B1 B2 B3) (plN pl b up) (cLa   L0 W0 G0 B0 P0 ++ cFl cI cnt ln dr pl B0 B1 B2 B3) := by
  refine ct_i (plainFor_of_name (by decide)) rfl (Nat.le_of_ble_eq_true rfl) ?_
  intro p e s mI args below meth c_0 ls A hx hb hr hml hts hown hlocks hin hA hP hK hD hNW hS hl Q hQ
  have hown : s.vm.findClass RX2 = some mI.cls := hown
  have hl : lv_has ls 3 [(0, .ref L0), (1, .int (iI b)), (2, .int (iI up))] := hl
  have hin_X2 : ∀ w ∈ wsX20, w ∈ wsX2_nextPlace := by decide +kernel
  have hf_21 := hts (.fieldLink RX2 21 "LockStaircase$Ladder" "fleet" "LLockStaircase$Fleet;") (by decide +kernel)
  refine lv_aload_n hx hb dX2_nextPlace_0 rfl (lv_at hl 0 rfl) ?_
  refine li_get (ci := 2) (v := .ref B0) (C := RX2) (T := TX2) (N := 4) (q0 := 0) (k := 2) hx hb hts hin_X2 hown hK hP rfl rfl (by decide) hf_21 rfl rfl dX2_nextPlace_1 ?_
  refine lv_iload_n hx hb dX2_nextPlace_4 rfl (lv_at hl 1 rfl) ?_
  refine cl_i0 (isC := [1, 2, 3, 4]) (isR := [0]) (isN := [0, 1, 2, 3, 4]) (wr := cLa   L0 W0 G0 B0 P0) (wn := cLa   L0 W0 G0 B0 P0 ++ cFl cI cnt ln dr pl B0 B1 B2 B3) (As := [.int (iI b)]) (rest := []) (r := pl b) (ci := 0) (q0 := 0) ⟨hx, hb, hml, hown, hts⟩ (c_X0_placeAt cnt ln dr pl B0 B1 B2 B3 b (by first | assumption | omega)) (cwV 1 hts gX2_nextPlace_X0_placeAt rfl rfl rfl (by decide +kernel) ⟨Nat.le_of_ble_eq_true rfl, Nat.le_of_ble_eq_true rfl⟩) hK hNW hP hD hS hA rfl rfl rfl rfl (by decide) rfl rfl rfl rfl rfl rfl hl.1 rfl (Nat.le_of_ble_eq_true rfl) dX2_nextPlace_5 ⟨Nat.zero_le _, Nat.zero_le _⟩ (fun H locs hP hD hS => ?_)
  refine lv_iload_n hx hb dX2_nextPlace_8 rfl (lv_at hl 2 rfl) ?_
  refine li_if_eq (tgt := 16) hx hb dX2_nextPlace_9 (by decide) (ib_i (by omega) (by omega)) (fun c_9 => ?_) (fun c_9 => ?_)
  · refine li_const hx hb dX2_nextPlace_16 ?_
    refine li_add hx hb dX2_nextPlace_17 ?_
    exact li_iret () hx hb hr hlocks hK hP hD hS dX2_nextPlace_18 hQ rfl (congrArg iI (by unfold plN; first | rw [if_pos (by omega)] | rw [if_neg (by omega)]))
  · refine li_const hx hb dX2_nextPlace_12 ?_
    refine lv_goto (tgt := 17) hx hb dX2_nextPlace_13 (by decide) ?_
    refine li_add hx hb dX2_nextPlace_17 ?_
    exact li_iret () hx hb hr hlocks hK hP hD hS dX2_nextPlace_18 hQ rfl (congrArg iI (by unfold plN; first | rw [if_pos (by omega)] | rw [if_neg (by omega)]))

set_option maxRecDepth 100000 in
set_option maxHeartbeats 4000000 in
theorem c_X2_openingObstacle {l : Launch} {D : va_G} {cI cZ cJ : ClassId} (n : Int) (L : Int) (a : Int) (gd : Int) (w : Wt) (op : Int → Int) (tn : Int → Int) (L0 W0 W1 G0 G1 G2 B0 P0 : Nat) (g : Int) (hn : 1 ≤ n ∧ n ≤ 6) (hL : 5 ≤ L ∧ L ≤ 40) (ha : 1 ≤ a ∧ a ≤ 50) (hw : WI n L a w) (hop : opB op) (htn : tnB tn) (hg : 0 ≤ g ∧ g ≤ n) : Di l yX2_openingObstacle wsX2_openingObstacle 5 [.ref L0, .int (iI g)] D (ty3 cI cZ cJ) (cLa   L0 W0 G0 B0 P0 ++ cWa cI n L a gd w W0 W1 ++ cGa cI cZ op tn G0 G1 G2) (opO n L a w op tn g) (cLa   L0 W0 G0 B0 P0 ++ cWa cI n L a gd w W0 W1 ++ cGa cI cZ op tn G0 G1 G2) := by
  refine ct_i (plainFor_of_name (by decide)) rfl (Nat.le_of_ble_eq_true rfl) ?_
  intro p e s mI args below meth c_0 ls A hx hb hr hml hts hown hlocks hin hA hP hK hD hNW hS hl Q hQ
  have hown : s.vm.findClass RX2 = some mI.cls := hown
  have hl : lv_has ls 2 [(0, .ref L0), (1, .int (iI g))] := hl
  have hin_X2 : ∀ w ∈ wsX20, w ∈ wsX2_openingObstacle := by decide +kernel
  have hf_12 := hts (.fieldLink RX2 12 "LockStaircase$Ladder" "gates" "LLockStaircase$Gates;") (by decide +kernel)
  have hf_37 := hts (.fieldLink RX2 37 "LockStaircase$Ladder" "water" "LLockStaircase$Water;") (by decide +kernel)
  refine lv_aload_n hx hb dX2_openingObstacle_0 rfl (lv_at hl 0 rfl) ?_
  refine li_get (ci := 2) (v := .ref G0) (C := RX2) (T := TX2) (N := 4) (q0 := 0) (k := 1) hx hb hts hin_X2 hown hK hP rfl rfl (by decide) hf_12 rfl rfl dX2_openingObstacle_1 ?_
  refine lv_iload_n hx hb dX2_openingObstacle_4 rfl (lv_at hl 1 rfl) ?_
  refine cl_i0 (isC := [3, 4, 5]) (isR := [0, 1, 2]) (isN := [0, 1, 2, 3, 4, 5]) (wr := cLa   L0 W0 G0 B0 P0 ++ cWa cI n L a gd w W0 W1) (wn := cLa   L0 W0 G0 B0 P0 ++ cWa cI n L a gd w W0 W1 ++ cGa cI cZ op tn G0 G1 G2) (As := [.int (iI g)]) (rest := []) (r := bz (isO op g = true)) (ci := 1) (q0 := 0) ⟨hx, hb, hml, hown, hts⟩ (c_X1_isOpenAt op tn G0 G1 G2 g (by first | assumption | omega) (by first | assumption | omega)) (cwV 1 hts gX2_openingObstacle_X1_isOpenAt rfl rfl rfl (by decide +kernel) ⟨Nat.le_of_ble_eq_true rfl, Nat.le_of_ble_eq_true rfl⟩) hK hNW hP hD hS hA rfl rfl rfl rfl (by decide) rfl rfl rfl rfl rfl rfl hl.1 rfl (Nat.le_of_ble_eq_true rfl) dX2_openingObstacle_5 ⟨Nat.zero_le _, Nat.zero_le _⟩ (fun H locs hP hD hS => ?_)
  refine li_ifb_eq (tgt := 13) hx hb dX2_openingObstacle_8 (by decide) (fun c_8 => ?_) (fun c_8 => ?_)
  · refine lv_aload_n hx hb dX2_openingObstacle_13 rfl (lv_at hl 0 rfl) ?_
    refine li_get (ci := 2) (v := .ref G0) (C := RX2) (T := TX2) (N := 4) (q0 := 0) (k := 1) hx hb hts hin_X2 hown hK hP rfl rfl (by decide) hf_12 rfl rfl dX2_openingObstacle_14 ?_
    refine lv_iload_n hx hb dX2_openingObstacle_17 rfl (lv_at hl 1 rfl) ?_
    refine cl_i0 (isC := [3, 4, 5]) (isR := [0, 1, 2]) (isN := [0, 1, 2, 3, 4, 5]) (wr := cLa   L0 W0 G0 B0 P0 ++ cWa cI n L a gd w W0 W1) (wn := cLa   L0 W0 G0 B0 P0 ++ cWa cI n L a gd w W0 W1 ++ cGa cI cZ op tn G0 G1 G2) (As := [.int (iI g)]) (rest := []) (r := bz (beS tn g = true)) (ci := 1) (q0 := 0) ⟨hx, hb, hml, hown, hts⟩ (c_X1_isSluiceUpBeside op tn G0 G1 G2 g (by first | assumption | omega) (by first | assumption | omega)) (cwV 1 hts gX2_openingObstacle_X1_isSluiceUpBeside rfl rfl rfl (by decide +kernel) ⟨Nat.le_of_ble_eq_true rfl, Nat.le_of_ble_eq_true rfl⟩) hK hNW hP hD hS hA rfl rfl rfl rfl (by decide) rfl rfl rfl rfl rfl rfl hl.1 rfl (Nat.le_of_ble_eq_true rfl) dX2_openingObstacle_18 ⟨Nat.zero_le _, Nat.zero_le _⟩ (fun H locs hP hD hS => ?_)
    refine li_ifb_eq (tgt := 26) hx hb dX2_openingObstacle_21 (by decide) (fun c_21 => ?_) (fun c_21 => ?_)
    · refine lv_aload_n hx hb dX2_openingObstacle_26 rfl (lv_at hl 0 rfl) ?_
      refine li_get (ci := 2) (v := .ref W0) (C := RX2) (T := TX2) (N := 4) (q0 := 0) (k := 0) hx hb hts hin_X2 hown hK hP rfl rfl (by decide) hf_37 rfl rfl dX2_openingObstacle_27 ?_
      refine lv_iload_n hx hb dX2_openingObstacle_30 rfl (lv_at hl 1 rfl) ?_
      refine cl_i0 (isC := [1, 2]) (isR := [0, 3, 4, 5]) (isN := [0, 4, 5, 1, 2, 3]) (wr := cLa   L0 W0 G0 B0 P0 ++ cGa cI cZ op tn G0 G1 G2) (wn := cLa   L0 W0 G0 B0 P0 ++ cWa cI n L a gd w W0 W1 ++ cGa cI cZ op tn G0 G1 G2) (As := [.int (iI g)]) (rest := []) (r := hdA n L a w g) (ci := 4) (q0 := 0) ⟨hx, hb, hml, hown, hts⟩ (c_X4_headOver n L a gd w W0 W1 g (by first | assumption | omega) (by first | assumption | omega) (by first | assumption | omega) (by first | assumption | omega) (by first | assumption | omega)) (cwV 1 hts gX2_openingObstacle_X4_headOver rfl rfl rfl (by decide +kernel) ⟨Nat.le_of_ble_eq_true rfl, Nat.le_of_ble_eq_true rfl⟩) hK hNW hP hD hS hA rfl rfl rfl rfl (by decide) rfl rfl rfl rfl rfl rfl hl.1 rfl (Nat.le_of_ble_eq_true rfl) dX2_openingObstacle_31 ⟨Nat.zero_le _, Nat.zero_le _⟩ (fun H locs hP hD hS => ?_)
      have b1 := lvA_b hn hL ha hw g (by omega)
      have b2 := lvA_b hn hL ha hw (g - 1) (by omega)
      have eh : hdA n L a w g = lvA n L a w g - lvA n L a w (g - 1) := rfl
      refine li_if_eq (tgt := 41) hx hb dX2_openingObstacle_34 (by decide) (ib_i (by omega) (by omega)) (fun c_34 => ?_) (fun c_34 => ?_)
      · refine li_const hx hb dX2_openingObstacle_41 ?_
        exact li_iret () hx hb hr hlocks hK hP hD hS dX2_openingObstacle_42 hQ rfl (congrArg iI (by unfold opO; repeat (first | rw [if_pos (by assumption)] | rw [if_neg (by assumption)])))
      · refine li_const hx hb dX2_openingObstacle_37 ?_
        refine lv_goto (tgt := 42) hx hb dX2_openingObstacle_38 (by decide) ?_
        exact li_iret () hx hb hr hlocks hK hP hD hS dX2_openingObstacle_42 hQ rfl (congrArg iI (by unfold opO; repeat (first | rw [if_pos (by assumption)] | rw [if_neg (by assumption)])))
    · refine li_const hx hb dX2_openingObstacle_24 ?_
      exact li_iret () hx hb hr hlocks hK hP hD hS dX2_openingObstacle_25 hQ rfl (congrArg iI (by unfold opO; repeat (first | rw [if_pos (by assumption)] | rw [if_neg (by assumption)])))
  · refine li_const hx hb dX2_openingObstacle_11 ?_
    exact li_iret () hx hb hr hlocks hK hP hD hS dX2_openingObstacle_12 hQ rfl (congrArg iI (by unfold opO; repeat (first | rw [if_pos (by assumption)] | rw [if_neg (by assumption)])))

set_option maxRecDepth 100000 in
set_option maxHeartbeats 4000000 in
theorem c_X2_gateTo {l : Launch} {D : va_G} {cI cZ cJ : ClassId} (cnt : Int) (ln : Int → Int) (dr : Int → Int) (pl : Int → Int) (L0 B0 B1 B2 B3 W0 G0 P0 : Nat) (b : Int) (x : Int) (hcnt : 0 ≤ cnt ∧ cnt ≤ 10) (hbt : 0 ≤ b ∧ b < cnt) (hpl : plB pl) (hx9 : -1 ≤ x ∧ x ≤ 8) : Di l yX2_gateTo wsX2_gateTo 3 [.ref L0, .int (iI b), .int (iI x)] D (ty3 cI cZ cJ) (cLa   L0 W0 G0 B0 P0 ++ cFl cI cnt ln dr pl B0 B1 B2 B3) (gtA (pl b) x) (cLa   L0 W0 G0 B0 P0 ++ cFl cI cnt ln dr pl B0 B1 B2 B3) := by
  refine ct_i (plainFor_of_name (by decide)) rfl (Nat.le_of_ble_eq_true rfl) ?_
  intro p e s mI args below meth c_0 ls A hx hb hr hml hts hown hlocks hin hA hP hK hD hNW hS hl Q hQ
  have hown : s.vm.findClass RX2 = some mI.cls := hown
  have hl : lv_has ls 3 [(0, .ref L0), (1, .int (iI b)), (2, .int (iI x))] := hl
  have hin_X2 : ∀ w ∈ wsX20, w ∈ wsX2_gateTo := by decide +kernel
  have hk_min := hts (.code Lib.Math.min.name Lib.Math.min.code 2 (some .int)) (by decide +kernel)
  have hf_21 := hts (.fieldLink RX2 21 "LockStaircase$Ladder" "fleet" "LLockStaircase$Fleet;") (by decide +kernel)
  have hi_Math := hts (.initialized "java/lang/Math") (by decide +kernel)
  have hm_80 := hts (.methodLink RX2 80 Lib.Math.min.name) (by decide +kernel)
  have hs_min := hts (.static Lib.Math.min.name) (by decide +kernel)
  have hp := hpl b
  refine lv_aload_n hx hb dX2_gateTo_0 rfl (lv_at hl 0 rfl) ?_
  refine li_get (ci := 2) (v := .ref B0) (C := RX2) (T := TX2) (N := 4) (q0 := 0) (k := 2) hx hb hts hin_X2 hown hK hP rfl rfl (by decide) hf_21 rfl rfl dX2_gateTo_1 ?_
  refine lv_iload_n hx hb dX2_gateTo_4 rfl (lv_at hl 1 rfl) ?_
  refine cl_i0 (isC := [1, 2, 3, 4]) (isR := [0]) (isN := [0, 1, 2, 3, 4]) (wr := cLa   L0 W0 G0 B0 P0) (wn := cLa   L0 W0 G0 B0 P0 ++ cFl cI cnt ln dr pl B0 B1 B2 B3) (As := [.int (iI b)]) (rest := []) (r := pl b) (ci := 0) (q0 := 0) ⟨hx, hb, hml, hown, hts⟩ (c_X0_placeAt cnt ln dr pl B0 B1 B2 B3 b (by first | assumption | omega)) (cwV 1 hts gX2_gateTo_X0_placeAt rfl rfl rfl (by decide +kernel) ⟨Nat.le_of_ble_eq_true rfl, Nat.le_of_ble_eq_true rfl⟩) hK hNW hP hD hS hA rfl rfl rfl rfl (by decide) rfl rfl rfl rfl rfl rfl hl.1 rfl (Nat.le_of_ble_eq_true rfl) dX2_gateTo_5 ⟨Nat.zero_le _, Nat.zero_le _⟩ (fun H locs hP hD hS => ?_)
  refine lv_iload_n hx hb dX2_gateTo_8 rfl (lv_at hl 2 rfl) ?_
  refine li_min hx hb (hml.trans hl.1.symm) hown hm_80 hs_min hi_Math hk_min (Nat.le_of_ble_eq_true rfl) (Nat.le_of_ble_eq_true rfl) (Nat.zero_le _) (Nat.zero_le _) (ib_i (by omega) (by omega)) (ib_i (by omega) (by omega)) dX2_gateTo_9 ?_
  exact li_iret () hx hb hr hlocks hK hP hD hS dX2_gateTo_12 hQ rfl (congrArg iI (rfl))

set_option maxRecDepth 100000 in
set_option maxHeartbeats 4000000 in
theorem c_X2_obstacleIn {l : Launch} {D : va_G} {cI cZ cJ : ClassId} (n : Int) (L : Int) (a : Int) (gd : Int) (w : Wt) (cnt : Int) (ln : Int → Int) (dr : Int → Int) (pl : Int → Int) (L0 W0 W1 B0 B1 B2 B3 G0 P0 : Nat) (x : Int) (b : Int) (hn : 1 ≤ n ∧ n ≤ 6) (hL : 5 ≤ L ∧ L ≤ 40) (ha : 1 ≤ a ∧ a ≤ 50) (hw : WI n L a w) (hcnt : 0 ≤ cnt ∧ cnt ≤ 10) (hbt : 0 ≤ b ∧ b < cnt) (hln : lnB ln) (hdr : lnB dr) (hpi : plI n pl) (hx9 : 0 ≤ x ∧ x ≤ n + 1) : Di l yX2_obstacleIn wsX2_obstacleIn 5 [.ref L0, .int (iI x), .int (iI b)] D (ty3 cI cZ cJ) (cLa   L0 W0 G0 B0 P0 ++ cWa cI n L a gd w W0 W1 ++ cFl cI cnt ln dr pl B0 B1 B2 B3) (obI n a w cnt ln dr pl x b) (cLa   L0 W0 G0 B0 P0 ++ cWa cI n L a gd w W0 W1 ++ cFl cI cnt ln dr pl B0 B1 B2 B3) := by
  refine ct_i (plainFor_of_name (by decide)) rfl (Nat.le_of_ble_eq_true rfl) ?_
  intro p e s mI args below meth c_0 ls A hx hb hr hml hts hown hlocks hin hA hP hK hD hNW hS hl Q hQ
  have hown : s.vm.findClass RX2 = some mI.cls := hown
  have hl : lv_has ls 4 [(0, .ref L0), (1, .int (iI x)), (2, .int (iI b))] := hl
  have hin_X2 : ∀ w ∈ wsX20, w ∈ wsX2_obstacleIn := by decide +kernel
  have hf_21 := hts (.fieldLink RX2 21 "LockStaircase$Ladder" "fleet" "LLockStaircase$Fleet;") (by decide +kernel)
  have hf_37 := hts (.fieldLink RX2 37 "LockStaircase$Ladder" "water" "LLockStaircase$Water;") (by decide +kernel)
  have hw1 : -1000 ≤ w.1 ∧ w.1 ≤ 20 * a := hw.1
  have d1 := dv_b ha hw1.1 hw1.2
  have l1 := hln b
  have l2 := hdr b
  have l3 := lenS_b (pl := pl) hln x hcnt.1 hcnt.2
  refine lv_iload_n hx hb dX2_obstacleIn_0 rfl (lv_at hl 1 rfl) ?_
  refine lv_aload_n hx hb dX2_obstacleIn_1 rfl (lv_at hl 0 rfl) ?_
  refine cl_i0 (isC := [0, 1, 2]) (isR := [3, 4, 5, 6]) (isN := [4, 5, 6, 0, 1, 2, 3]) (wr := cFl cI cnt ln dr pl B0 B1 B2 B3) (wn := cLa   L0 W0 G0 B0 P0 ++ cWa cI n L a gd w W0 W1 ++ cFl cI cnt ln dr pl B0 B1 B2 B3) (As := []) (rest := [.int (iI x)]) (r := n + 1) (ci := 2) (q0 := 0) ⟨hx, hb, hml, hown, hts⟩ (c_X2_poundPlace n L a gd w L0 W0 W1 G0 B0 P0 (by first | assumption | omega) (by first | assumption | omega) (by first | assumption | omega)) (cwV 0 hts gX2_obstacleIn_X2_poundPlace rfl rfl rfl (by decide +kernel) ⟨Nat.le_of_ble_eq_true rfl, Nat.le_of_ble_eq_true rfl⟩) hK hNW hP hD hS hA rfl rfl rfl rfl (by decide) rfl rfl rfl rfl rfl rfl hl.1 rfl (Nat.le_of_ble_eq_true rfl) dX2_obstacleIn_2 ⟨Nat.zero_le _, Nat.zero_le _⟩ (fun H locs hP hD hS => ?_)
  refine li_icmp_ne (tgt := 32) hx hb dX2_obstacleIn_5 (by decide) (ib_i (by omega) (by omega)) (ib_i (by omega) (by omega)) (fun c_5 => ?_) (fun c_5 => ?_)
  · refine lv_iload_n hx hb dX2_obstacleIn_32 rfl (lv_at hl 1 rfl) ?_
    refine li_if_eq (tgt := 58) hx hb dX2_obstacleIn_33 (by decide) (ib_i (by omega) (by omega)) (fun c_33 => ?_) (fun c_33 => ?_)
    · refine li_const hx hb dX2_obstacleIn_58 ?_
      refine lv_goto (tgt := 63) hx hb dX2_obstacleIn_59 (by decide) ?_
      refine lv_istore_n (lv' := [(3, .int (iI 1)), (0, .ref L0), (1, .int (iI x)), (2, .int (iI b))]) hx hb dX2_obstacleIn_63 rfl hl (by decide) rfl (fun ls hl => ?_)
      refine lv_iload_n hx hb dX2_obstacleIn_64 rfl (lv_at hl 0 rfl) ?_
      refine li_if_eq_f (tgt := 72) hx hb dX2_obstacleIn_65 (by decide) (by decide) (by decide) ?_
      refine li_const hx hb dX2_obstacleIn_68 ?_
      refine lv_goto (tgt := 73) hx hb dX2_obstacleIn_69 (by decide) ?_
      exact li_iret () hx hb hr hlocks hK hP hD hS dX2_obstacleIn_73 hQ rfl (congrArg iI (by unfold obI; repeat (first | rw [if_pos (by omega)] | rw [if_neg (by omega)])))
    · refine lv_aload_n hx hb dX2_obstacleIn_36 rfl (lv_at hl 0 rfl) ?_
      refine li_get (ci := 2) (v := .ref B0) (C := RX2) (T := TX2) (N := 4) (q0 := 0) (k := 2) hx hb hts hin_X2 hown hK hP rfl rfl (by decide) hf_21 rfl rfl dX2_obstacleIn_37 ?_
      refine lv_iload_n hx hb dX2_obstacleIn_40 rfl (lv_at hl 1 rfl) ?_
      refine cl_i0 (isC := [3, 4, 5, 6]) (isR := [0, 1, 2]) (isN := [0, 1, 2, 3, 4, 5, 6]) (wr := cLa   L0 W0 G0 B0 P0 ++ cWa cI n L a gd w W0 W1) (wn := cLa   L0 W0 G0 B0 P0 ++ cWa cI n L a gd w W0 W1 ++ cFl cI cnt ln dr pl B0 B1 B2 B3) (As := [.int (iI x)]) (rest := []) (r := sumZ (lenP pl ln x) cnt.toNat) (ci := 0) (q0 := 0) ⟨hx, hb, hml, hown, hts⟩ (c_X0_lengthIn cnt ln dr pl B0 B1 B2 B3 x (by first | assumption | omega) (by exact plI_B hn hpi) (by first | assumption | omega)) (cwV 1 hts gX2_obstacleIn_X0_lengthIn rfl rfl rfl (by decide +kernel) ⟨Nat.le_of_ble_eq_true rfl, Nat.le_of_ble_eq_true rfl⟩) hK hNW hP hD hS hA rfl rfl rfl rfl (by decide) rfl rfl rfl rfl rfl rfl hl.1 rfl (Nat.le_of_ble_eq_true rfl) dX2_obstacleIn_41 ⟨Nat.zero_le _, Nat.zero_le _⟩ (fun H locs hP hD hS => ?_)
      refine lv_aload_n hx hb dX2_obstacleIn_44 rfl (lv_at hl 0 rfl) ?_
      refine li_get (ci := 2) (v := .ref B0) (C := RX2) (T := TX2) (N := 4) (q0 := 0) (k := 2) hx hb hts hin_X2 hown hK hP rfl rfl (by decide) hf_21 rfl rfl dX2_obstacleIn_45 ?_
      refine lv_iload_n hx hb dX2_obstacleIn_48 rfl (lv_at hl 2 rfl) ?_
      refine cl_i0 (isC := [3, 4, 5, 6]) (isR := [0, 1, 2]) (isN := [0, 1, 2, 3, 4, 5, 6]) (wr := cLa   L0 W0 G0 B0 P0 ++ cWa cI n L a gd w W0 W1) (wn := cLa   L0 W0 G0 B0 P0 ++ cWa cI n L a gd w W0 W1 ++ cFl cI cnt ln dr pl B0 B1 B2 B3) (As := [.int (iI b)]) (rest := [.int (iI (sumZ (lenP pl ln x) cnt.toNat))]) (r := ln b) (ci := 0) (q0 := 0) ⟨hx, hb, hml, hown, hts⟩ (c_X0_lengthAt cnt ln dr pl B0 B1 B2 B3 b (by first | assumption | omega)) (cwV 1 hts gX2_obstacleIn_X0_lengthAt rfl rfl rfl (by decide +kernel) ⟨Nat.le_of_ble_eq_true rfl, Nat.le_of_ble_eq_true rfl⟩) hK hNW hP hD hS hA rfl rfl rfl rfl (by decide) rfl rfl rfl rfl rfl rfl hl.1 rfl (Nat.le_of_ble_eq_true rfl) dX2_obstacleIn_49 ⟨Nat.zero_le _, Nat.zero_le _⟩ (fun H locs hP hD hS => ?_)
      refine li_add hx hb dX2_obstacleIn_52 ?_
      refine li_bipush hx hb dX2_obstacleIn_53 (by decide) ?_
      refine li_icmp_gt (tgt := 62) hx hb dX2_obstacleIn_55 (by decide) (ib_i (by omega) (by omega)) (by decide) (fun c_55 => ?_) (fun c_55 => ?_)
      · refine li_const hx hb dX2_obstacleIn_62 ?_
        refine lv_istore_n (lv' := [(3, .int (iI 0)), (0, .ref L0), (1, .int (iI x)), (2, .int (iI b))]) hx hb dX2_obstacleIn_63 rfl hl (by decide) rfl (fun ls hl => ?_)
        refine lv_iload_n hx hb dX2_obstacleIn_64 rfl (lv_at hl 0 rfl) ?_
        refine li_if_eq_t (tgt := 72) hx hb dX2_obstacleIn_65 (by decide) (by decide) (by decide) ?_
        refine li_const hx hb dX2_obstacleIn_72 ?_
        exact li_iret () hx hb hr hlocks hK hP hD hS dX2_obstacleIn_73 hQ rfl (congrArg iI (by unfold obI; repeat (first | rw [if_pos (by omega)] | rw [if_neg (by omega)])))
      · refine li_const hx hb dX2_obstacleIn_58 ?_
        refine lv_goto (tgt := 63) hx hb dX2_obstacleIn_59 (by decide) ?_
        refine lv_istore_n (lv' := [(3, .int (iI 1)), (0, .ref L0), (1, .int (iI x)), (2, .int (iI b))]) hx hb dX2_obstacleIn_63 rfl hl (by decide) rfl (fun ls hl => ?_)
        refine lv_iload_n hx hb dX2_obstacleIn_64 rfl (lv_at hl 0 rfl) ?_
        refine li_if_eq_f (tgt := 72) hx hb dX2_obstacleIn_65 (by decide) (by decide) (by decide) ?_
        refine li_const hx hb dX2_obstacleIn_68 ?_
        refine lv_goto (tgt := 73) hx hb dX2_obstacleIn_69 (by decide) ?_
        exact li_iret () hx hb hr hlocks hK hP hD hS dX2_obstacleIn_73 hQ rfl (congrArg iI (by unfold obI; repeat (first | rw [if_pos (by omega)] | rw [if_neg (by omega)])))
  · refine lv_aload_n hx hb dX2_obstacleIn_8 rfl (lv_at hl 0 rfl) ?_
    refine li_get (ci := 2) (v := .ref W0) (C := RX2) (T := TX2) (N := 4) (q0 := 0) (k := 0) hx hb hts hin_X2 hown hK hP rfl rfl (by decide) hf_37 rfl rfl dX2_obstacleIn_9 ?_
    refine cl_i0 (isC := [1, 2]) (isR := [0, 3, 4, 5, 6]) (isN := [0, 5, 6, 1, 2, 3, 4]) (wr := cLa   L0 W0 G0 B0 P0 ++ cFl cI cnt ln dr pl B0 B1 B2 B3) (wn := cLa   L0 W0 G0 B0 P0 ++ cWa cI n L a gd w W0 W1 ++ cFl cI cnt ln dr pl B0 B1 B2 B3) (As := []) (rest := []) (r := w.1 / a) (ci := 4) (q0 := 0) ⟨hx, hb, hml, hown, hts⟩ (c_X4_depth n L a gd w W0 W1 (by first | assumption | omega) (by first | assumption | omega) (by first | assumption | omega) (by first | assumption | omega)) (cwV 0 hts gX2_obstacleIn_X4_depth rfl rfl rfl (by decide +kernel) ⟨Nat.le_of_ble_eq_true rfl, Nat.le_of_ble_eq_true rfl⟩) hK hNW hP hD hS hA rfl rfl rfl rfl (by decide) rfl rfl rfl rfl rfl rfl hl.1 rfl (Nat.le_of_ble_eq_true rfl) dX2_obstacleIn_12 ⟨Nat.zero_le _, Nat.zero_le _⟩ (fun H locs hP hD hS => ?_)
    refine lv_aload_n hx hb dX2_obstacleIn_15 rfl (lv_at hl 0 rfl) ?_
    refine li_get (ci := 2) (v := .ref B0) (C := RX2) (T := TX2) (N := 4) (q0 := 0) (k := 2) hx hb hts hin_X2 hown hK hP rfl rfl (by decide) hf_21 rfl rfl dX2_obstacleIn_16 ?_
    refine lv_iload_n hx hb dX2_obstacleIn_19 rfl (lv_at hl 2 rfl) ?_
    refine cl_i0 (isC := [3, 4, 5, 6]) (isR := [0, 1, 2]) (isN := [0, 1, 2, 3, 4, 5, 6]) (wr := cLa   L0 W0 G0 B0 P0 ++ cWa cI n L a gd w W0 W1) (wn := cLa   L0 W0 G0 B0 P0 ++ cWa cI n L a gd w W0 W1 ++ cFl cI cnt ln dr pl B0 B1 B2 B3) (As := [.int (iI b)]) (rest := [.int (iI (w.1 / a))]) (r := dr b) (ci := 0) (q0 := 0) ⟨hx, hb, hml, hown, hts⟩ (c_X0_draughtAt cnt ln dr pl B0 B1 B2 B3 b (by first | assumption | omega)) (cwV 1 hts gX2_obstacleIn_X0_draughtAt rfl rfl rfl (by decide +kernel) ⟨Nat.le_of_ble_eq_true rfl, Nat.le_of_ble_eq_true rfl⟩) hK hNW hP hD hS hA rfl rfl rfl rfl (by decide) rfl rfl rfl rfl rfl rfl hl.1 rfl (Nat.le_of_ble_eq_true rfl) dX2_obstacleIn_20 ⟨Nat.zero_le _, Nat.zero_le _⟩ (fun H locs hP hD hS => ?_)
    refine li_icmp_ge (tgt := 30) hx hb dX2_obstacleIn_23 (by decide) (ib_i (by omega) (by omega)) (ib_i (by omega) (by omega)) (fun c_23 => ?_) (fun c_23 => ?_)
    · refine li_const hx hb dX2_obstacleIn_30 ?_
      exact li_iret () hx hb hr hlocks hK hP hD hS dX2_obstacleIn_31 hQ rfl (congrArg iI (by unfold obI; repeat (first | rw [if_pos (by omega)] | rw [if_neg (by omega)])))
    · refine li_const hx hb dX2_obstacleIn_26 ?_
      refine lv_goto (tgt := 31) hx hb dX2_obstacleIn_27 (by decide) ?_
      exact li_iret () hx hb hr hlocks hK hP hD hS dX2_obstacleIn_31 hQ rfl (congrArg iI (by unfold obI; repeat (first | rw [if_pos (by omega)] | rw [if_neg (by omega)])))

set_option maxRecDepth 100000 in
set_option maxHeartbeats 4000000 in
theorem c_X2_movingObstacle {l : Launch} {D : va_G} {cI cZ cJ : ClassId} (n : Int) (L : Int) (a : Int) (gd : Int) (w : Wt) (op : Int → Int) (tn : Int → Int) (cnt : Int) (ln : Int → Int) (dr : Int → Int) (pl : Int → Int) (L0 W0 W1 G0 G1 G2 B0 B1 B2 B3 P0 : Nat) (b : Int) (up : Int) (hn : 1 ≤ n ∧ n ≤ 6) (hL : 5 ≤ L ∧ L ≤ 40) (ha : 1 ≤ a ∧ a ≤ 50) (hw : WI n L a w) (hop : opB op) (hcnt : 0 ≤ cnt ∧ cnt ≤ 10) (hbt : 0 ≤ b ∧ b < cnt) (hln : lnB ln) (hdr : lnB dr) (hpi : plI n pl) (hup : up = 0 ∨ up = 1) : Di l yX2_movingObstacle wsX2_movingObstacle 7 [.ref L0, .int (iI b), .int (iI up)] D (ty3 cI cZ cJ) (cLa   L0 W0 G0 B0 P0 ++ cWa cI n L a gd w W0 W1 ++ cGa cI cZ op tn G0 G1 G2 ++ cFl cI cnt ln dr pl B0 B1 B2 B3) (mvO n a w op cnt ln dr pl b up) (cLa   L0 W0 G0 B0 P0 ++ cWa cI n L a gd w W0 W1 ++ cGa cI cZ op tn G0 G1 G2 ++ cFl cI cnt ln dr pl B0 B1 B2 B3) := by
  refine ct_i (plainFor_of_name (by decide)) rfl (Nat.le_of_ble_eq_true rfl) ?_
  intro p e s mI args below meth c_0 ls A hx hb hr hml hts hown hlocks hin hA hP hK hD hNW hS hl Q hQ
  have hown : s.vm.findClass RX2 = some mI.cls := hown
  have hl : lv_has ls 4 [(0, .ref L0), (1, .int (iI b)), (2, .int (iI up))] := hl
  have hin_X2 : ∀ w ∈ wsX20, w ∈ wsX2_movingObstacle := by decide +kernel
  have hf_12 := hts (.fieldLink RX2 12 "LockStaircase$Ladder" "gates" "LLockStaircase$Gates;") (by decide +kernel)
  have hp := hpi b
  have hpn : (up = 0 ∧ plN pl b up = pl b - 1) ∨ (up = 1 ∧ plN pl b up = pl b + 1) := by unfold plN; split <;> omega
  have hgt : gtA (pl b) (plN pl b up) ≤ pl b ∧ gtA (pl b) (plN pl b up) ≤ plN pl b up ∧ (gtA (pl b) (plN pl b up) = pl b ∨ gtA (pl b) (plN pl b up) = plN pl b up) := by unfold gtA; split <;> omega
  refine lv_aload_n hx hb dX2_movingObstacle_0 rfl (lv_at hl 0 rfl) ?_
  refine lv_iload_n hx hb dX2_movingObstacle_1 rfl (lv_at hl 1 rfl) ?_
  refine lv_iload_n hx hb dX2_movingObstacle_2 rfl (lv_at hl 2 rfl) ?_
  refine cl_i0 (isC := [0, 6, 7, 8, 9]) (isR := [1, 2, 3, 4, 5]) (isN := [5, 0, 1, 2, 3, 4, 6, 7, 8, 9]) (wr := cWa cI n L a gd w W0 W1 ++ cGa cI cZ op tn G0 G1 G2) (wn := cLa   L0 W0 G0 B0 P0 ++ cWa cI n L a gd w W0 W1 ++ cGa cI cZ op tn G0 G1 G2 ++ cFl cI cnt ln dr pl B0 B1 B2 B3) (As := [.int (iI b), .int (iI up)]) (rest := []) (r := plN pl b up) (ci := 2) (q0 := 0) ⟨hx, hb, hml, hown, hts⟩ (c_X2_nextPlace cnt ln dr pl L0 B0 B1 B2 B3 W0 G0 P0 b up (by first | assumption | omega) (by first | assumption | omega) (by first | assumption | omega)) (cwV 2 hts gX2_movingObstacle_X2_nextPlace rfl rfl rfl (by decide +kernel) ⟨Nat.le_of_ble_eq_true rfl, Nat.le_of_ble_eq_true rfl⟩) hK hNW hP hD hS hA rfl rfl rfl rfl (by decide) rfl rfl rfl rfl rfl rfl hl.1 rfl (Nat.le_of_ble_eq_true rfl) dX2_movingObstacle_3 ⟨Nat.zero_le _, Nat.zero_le _⟩ (fun H locs hP hD hS => ?_)
  refine lv_istore_n (lv' := [(3, .int (iI (plN pl b up))), (0, .ref L0), (1, .int (iI b)), (2, .int (iI up))]) hx hb dX2_movingObstacle_6 rfl hl (by decide) rfl (fun ls hl => ?_)
  refine lv_iload_n hx hb dX2_movingObstacle_7 rfl (lv_at hl 0 rfl) ?_
  refine li_if_lt (tgt := 19) hx hb dX2_movingObstacle_8 (by decide) (ib_i (by omega) (by omega)) (fun c_8 => ?_) (fun c_8 => ?_)
  · refine li_const hx hb dX2_movingObstacle_19 ?_
    exact li_iret () hx hb hr hlocks hK hP hD hS dX2_movingObstacle_20 hQ rfl (congrArg iI (by unfold mvO; first | (rw [if_pos (by omega)]; done) | (rw [if_neg (by omega)]; first | (rw [if_pos (by assumption)]; done) | (rw [if_neg (by assumption)]; done))))
  · refine lv_iload_n hx hb dX2_movingObstacle_11 rfl (lv_at hl 0 rfl) ?_
    refine lv_aload_n hx hb dX2_movingObstacle_12 rfl (lv_at hl 1 rfl) ?_
    refine cl_i0 (isC := [0, 1, 2]) (isR := [3, 4, 5, 6, 7, 8, 9]) (isN := [7, 8, 9, 0, 1, 2, 3, 4, 5, 6]) (wr := cGa cI cZ op tn G0 G1 G2 ++ cFl cI cnt ln dr pl B0 B1 B2 B3) (wn := cLa   L0 W0 G0 B0 P0 ++ cWa cI n L a gd w W0 W1 ++ cGa cI cZ op tn G0 G1 G2 ++ cFl cI cnt ln dr pl B0 B1 B2 B3) (As := []) (rest := [.int (iI (plN pl b up))]) (r := n + 1) (ci := 2) (q0 := 0) ⟨hx, hb, hml, hown, hts⟩ (c_X2_poundPlace n L a gd w L0 W0 W1 G0 B0 P0 (by first | assumption | omega) (by first | assumption | omega) (by first | assumption | omega)) (cwV 0 hts gX2_movingObstacle_X2_poundPlace rfl rfl rfl (by decide +kernel) ⟨Nat.le_of_ble_eq_true rfl, Nat.le_of_ble_eq_true rfl⟩) hK hNW hP hD hS hA rfl rfl rfl rfl (by decide) rfl rfl rfl rfl rfl rfl hl.1 rfl (Nat.le_of_ble_eq_true rfl) dX2_movingObstacle_13 ⟨Nat.zero_le _, Nat.zero_le _⟩ (fun H locs hP hD hS => ?_)
    refine li_icmp_le (tgt := 21) hx hb dX2_movingObstacle_16 (by decide) (ib_i (by omega) (by omega)) (ib_i (by omega) (by omega)) (fun c_16 => ?_) (fun c_16 => ?_)
    · refine lv_aload_n hx hb dX2_movingObstacle_21 rfl (lv_at hl 1 rfl) ?_
      refine li_get (ci := 2) (v := .ref G0) (C := RX2) (T := TX2) (N := 4) (q0 := 0) (k := 1) hx hb hts hin_X2 hown hK hP rfl rfl (by decide) hf_12 rfl rfl dX2_movingObstacle_22 ?_
      refine lv_aload_n hx hb dX2_movingObstacle_25 rfl (lv_at hl 1 rfl) ?_
      refine lv_iload_n hx hb dX2_movingObstacle_26 rfl (lv_at hl 2 rfl) ?_
      refine lv_iload_n hx hb dX2_movingObstacle_27 rfl (lv_at hl 0 rfl) ?_
      refine cl_i0 (isC := [0, 6, 7, 8, 9]) (isR := [1, 2, 3, 4, 5]) (isN := [5, 0, 1, 2, 3, 4, 6, 7, 8, 9]) (wr := cWa cI n L a gd w W0 W1 ++ cGa cI cZ op tn G0 G1 G2) (wn := cLa   L0 W0 G0 B0 P0 ++ cWa cI n L a gd w W0 W1 ++ cGa cI cZ op tn G0 G1 G2 ++ cFl cI cnt ln dr pl B0 B1 B2 B3) (As := [.int (iI b), .int (iI (plN pl b up))]) (rest := [.ref G0]) (r := gtA (pl b) (plN pl b up)) (ci := 2) (q0 := 0) ⟨hx, hb, hml, hown, hts⟩ (c_X2_gateTo cnt ln dr pl L0 B0 B1 B2 B3 W0 G0 P0 b (plN pl b up) (by first | assumption | omega) (by first | assumption | omega) (by exact plI_B hn hpi) (by first | assumption | omega)) (cwV 2 hts gX2_movingObstacle_X2_gateTo rfl rfl rfl (by decide +kernel) ⟨Nat.le_of_ble_eq_true rfl, Nat.le_of_ble_eq_true rfl⟩) hK hNW hP hD hS hA rfl rfl rfl rfl (by decide) rfl rfl rfl rfl rfl rfl hl.1 rfl (Nat.le_of_ble_eq_true rfl) dX2_movingObstacle_28 ⟨Nat.zero_le _, Nat.zero_le _⟩ (fun H locs hP hD hS => ?_)
      refine cl_i0 (isC := [3, 4, 5]) (isR := [0, 1, 2, 6, 7, 8, 9]) (isN := [0, 1, 2, 7, 8, 9, 3, 4, 5, 6]) (wr := cLa   L0 W0 G0 B0 P0 ++ cWa cI n L a gd w W0 W1 ++ cFl cI cnt ln dr pl B0 B1 B2 B3) (wn := cLa   L0 W0 G0 B0 P0 ++ cWa cI n L a gd w W0 W1 ++ cGa cI cZ op tn G0 G1 G2 ++ cFl cI cnt ln dr pl B0 B1 B2 B3) (As := [.int (iI (gtA (pl b) (plN pl b up)))]) (rest := []) (r := bz (isO op (gtA (pl b) (plN pl b up)) = true)) (ci := 1) (q0 := 0) ⟨hx, hb, hml, hown, hts⟩ (c_X1_isOpenAt op tn G0 G1 G2 (gtA (pl b) (plN pl b up)) (by first | assumption | omega) (by first | assumption | omega)) (cwV 1 hts gX2_movingObstacle_X1_isOpenAt rfl rfl rfl (by decide +kernel) ⟨Nat.le_of_ble_eq_true rfl, Nat.le_of_ble_eq_true rfl⟩) hK hNW hP hD hS hA rfl rfl rfl rfl (by decide) rfl rfl rfl rfl rfl rfl hl.1 rfl (Nat.le_of_ble_eq_true rfl) dX2_movingObstacle_31 ⟨Nat.zero_le _, Nat.zero_le _⟩ (fun H locs hP hD hS => ?_)
      refine li_ifb_eq (tgt := 46) hx hb dX2_movingObstacle_34 (by decide) (fun c_34 => ?_) (fun c_34 => ?_)
      · refine li_const hx hb dX2_movingObstacle_46 ?_
        exact li_iret () hx hb hr hlocks hK hP hD hS dX2_movingObstacle_47 hQ rfl (congrArg iI (by unfold mvO; first | (rw [if_pos (by omega)]; done) | (rw [if_neg (by omega)]; first | (rw [if_pos (by assumption)]; done) | (rw [if_neg (by assumption)]; done))))
      · refine lv_aload_n hx hb dX2_movingObstacle_37 rfl (lv_at hl 1 rfl) ?_
        refine lv_iload_n hx hb dX2_movingObstacle_38 rfl (lv_at hl 0 rfl) ?_
        refine lv_iload_n hx hb dX2_movingObstacle_39 rfl (lv_at hl 2 rfl) ?_
        refine cl_i0 (isC := [0, 1, 2, 6, 7, 8, 9]) (isR := [3, 4, 5]) (isN := [3, 4, 5, 0, 1, 2, 6, 7, 8, 9]) (wr := cGa cI cZ op tn G0 G1 G2) (wn := cLa   L0 W0 G0 B0 P0 ++ cWa cI n L a gd w W0 W1 ++ cGa cI cZ op tn G0 G1 G2 ++ cFl cI cnt ln dr pl B0 B1 B2 B3) (As := [.int (iI (plN pl b up)), .int (iI b)]) (rest := []) (r := obI n a w cnt ln dr pl (plN pl b up) b) (ci := 2) (q0 := 0) ⟨hx, hb, hml, hown, hts⟩ (c_X2_obstacleIn n L a gd w cnt ln dr pl L0 W0 W1 B0 B1 B2 B3 G0 P0 (plN pl b up) b (by first | assumption | omega) (by first | assumption | omega) (by first | assumption | omega) (by first | assumption | omega) (by first | assumption | omega) (by first | assumption | omega) (by first | assumption | omega) (by first | assumption | omega) (by first | assumption | omega) (by first | assumption | omega)) (cwV 2 hts gX2_movingObstacle_X2_obstacleIn rfl rfl rfl (by decide +kernel) ⟨Nat.le_of_ble_eq_true rfl, Nat.le_of_ble_eq_true rfl⟩) hK hNW hP hD hS hA rfl rfl rfl rfl (by decide) rfl rfl rfl rfl rfl rfl hl.1 rfl (Nat.le_of_ble_eq_true rfl) dX2_movingObstacle_40 ⟨Nat.zero_le _, Nat.zero_le _⟩ (fun H locs hP hD hS => ?_)
        refine lv_goto (tgt := 47) hx hb dX2_movingObstacle_43 (by decide) ?_
        exact li_iret () hx hb hr hlocks hK hP hD hS dX2_movingObstacle_47 hQ rfl (congrArg iI (by unfold mvO; first | (rw [if_pos (by omega)]; done) | (rw [if_neg (by omega)]; first | (rw [if_pos (by assumption)]; done) | (rw [if_neg (by assumption)]; done))))
    · refine li_const hx hb dX2_movingObstacle_19 ?_
      exact li_iret () hx hb hr hlocks hK hP hD hS dX2_movingObstacle_20 hQ rfl (congrArg iI (by unfold mvO; first | (rw [if_pos (by omega)]; done) | (rw [if_neg (by omega)]; first | (rw [if_pos (by assumption)]; done) | (rw [if_neg (by assumption)]; done))))

set_option maxRecDepth 100000 in
set_option maxHeartbeats 4000000 in
theorem c_X2_passMinute {l : Launch} {D : va_G} {cI cZ cJ : ClassId} (n : Int) (L : Int) (a : Int) (gd : Int) (w : Wt) (op : Int → Int) (tn : Int → Int) (L0 W0 W1 G0 G1 G2 B0 P0 : Nat) (hn : 1 ≤ n ∧ n ≤ 6) (hL : 5 ≤ L ∧ L ≤ 40) (ha : 1 ≤ a ∧ a ≤ 50) (hw : WI n L a w) (htn : tnB tn) : Di l yX2_passMinute wsX2_passMinute 6 [.ref L0] D (ty3 cI cZ cJ) (cLa   L0 W0 G0 B0 P0 ++ cWa cI n L a gd w W0 W1 ++ cGa cI cZ op tn G0 G1 G2) ((paW n L a tn (n + 1).toNat (tickW 1 w)).1) (cLa   L0 W0 G0 B0 P0 ++ cWa cI n L a gd ((paW n L a tn (n + 1).toNat (tickW 1 w)).2) W0 W1 ++ cGa cI cZ op tn G0 G1 G2) := by
  refine ct_i (plainFor_of_name (by decide)) rfl (Nat.le_of_ble_eq_true rfl) ?_
  intro p e s mI args below meth c_0 ls A hx hb hr hml hts hown hlocks hin hA hP hK hD hNW hS hl Q hQ
  have hown : s.vm.findClass RX2 = some mI.cls := hown
  have hl : lv_has ls 3 [(0, .ref L0)] := hl
  have hin_X2 : ∀ w ∈ wsX20, w ∈ wsX2_passMinute := by decide +kernel
  have hin_X4 : ∀ w ∈ wsX40, w ∈ wsX2_passMinute := by decide +kernel
  have hf_12 := hts (.fieldLink RX2 12 "LockStaircase$Ladder" "gates" "LLockStaircase$Gates;") (by decide +kernel)
  have hf_37 := hts (.fieldLink RX2 37 "LockStaircase$Ladder" "water" "LLockStaircase$Water;") (by decide +kernel)
  refine lv_aload_n hx hb dX2_passMinute_0 rfl (lv_at hl 0 rfl) ?_
  refine li_get (ci := 2) (v := .ref W0) (C := RX2) (T := TX2) (N := 4) (q0 := 0) (k := 0) hx hb hts hin_X2 hown hK hP rfl rfl (by decide) hf_37 rfl rfl dX2_passMinute_1 ?_
  refine lv_dup hx hb dX2_passMinute_4 rfl ?_
  refine li_getN (own := RX2) (ref := "LockStaircase$Water") (host := "LockStaircase") (index := 97) (ci := 4) (v := .int (iI w.2.2.1)) (C := RX4) (T := TX4) (N := 8) (q0 := 1) (k := 7) hx hb hts hin_X4 hown hK hP rfl rfl (by decide) hNW nw_X2_97 rfl rfl dX2_passMinute_5 ?_
  refine li_const hx hb dX2_passMinute_8 ?_
  refine li_add hx hb dX2_passMinute_9 ?_
  refine li_putN (own := RX2) (ref := "LockStaircase$Water") (host := "LockStaircase") (index := 97) (ci := 4) (v := .int (iI (w.2.2.1 + 1))) (ty := .int) (C := RX4) (T := TX4) (N := 8) (q0 := 1) (k := 7) (w2 := cLa   L0 W0 G0 B0 P0 ++ cWa cI n L a gd (w.1, w.2.1, w.2.2.1 + 1, w.2.2.2) W0 W1 ++ cGa cI cZ op tn G0 G1 G2) hx hb hts hin_X4 tyX4_ok nmX4 hown hK hP hD hS rfl rfl (by decide) hNW nw_X2_97 rfl rfl (by decide +kernel) rfl rfl (Nat.le_of_ble_eq_true rfl) dX2_passMinute_10 rfl (fun H locs hP hD hS => ?_)
  refine li_const hx hb dX2_passMinute_13 ?_
  refine lv_istore_n (lv' := [(1, .int (iI 0)), (0, .ref L0)]) hx hb dX2_passMinute_14 rfl hl (by decide) rfl (fun ls hl => ?_)
  refine li_const hx hb dX2_passMinute_15 ?_
  refine lv_istore_n (lv' := [(2, .int (iI 0)), (1, .int (iI 0)), (0, .ref L0)]) hx hb dX2_passMinute_16 rfl hl (by decide) rfl (fun ls hl => ?_)
  have loop_17 : ∀ (N : Nat) (j : Int) (sv : Int) (w2 : Wt), (0 ≤ j ∧ j ≤ n + 1) → (sv = (paW n L a tn j.toNat (tickW 1 w)).1) → (w2 = (paW n L a tn j.toNat (tickW 1 w)).2) → n + 1 - j < (N : Int) → ∀ (H : Heap) (locs : List Loc), va_P D vwCl (cLa   L0 W0 G0 B0 P0 ++ cWa cI n L a gd w2 W0 W1 ++ cGa cI cZ op tn G0 G1 G2) H → va_D A (cLa   L0 W0 G0 B0 P0 ++ cWa cI n L a gd w2 W0 W1 ++ cGa cI cZ op tn G0 G1 G2) → va_S A s.heap H locs → ∀ (ls : Array Slot), lv_has ls 3 [(2, .int (iI j)), (1, .int (iI sv)), (0, .ref L0)] → W p l e (rK 6 0 0) s mI args below meth c_0 H locs 0 0 Q (F0 mI 17 ls []) := by
    intro N
    induction N with
    | zero =>
      intro j sv w2 hj hh hh2 hN
      exact absurd hN (by omega)
    | succ N ih =>
      intro j sv w2 hj hh hh2 hN H locs hP hD hS ls hl
      have t1 := tnA_b htn j
      have hw2 : WI n L a w2 := by rw [hh2]; exact paW_WI hn hL ha _ _ (by omega) (tickW_WI hw)
      refine lv_iload_n hx hb dX2_passMinute_17 rfl (lv_at hl 0 rfl) ?_
      refine lv_aload_n hx hb dX2_passMinute_18 rfl (lv_at hl 2 rfl) ?_
      refine li_get (ci := 2) (v := .ref W0) (C := RX2) (T := TX2) (N := 4) (q0 := 0) (k := 0) hx hb hts hin_X2 hown hK hP rfl rfl (by decide) hf_37 rfl rfl dX2_passMinute_19 ?_
      refine cl_i0 (isC := [1, 2]) (isR := [0, 3, 4, 5]) (isN := [0, 4, 5, 1, 2, 3]) (wr := cLa   L0 W0 G0 B0 P0 ++ cGa cI cZ op tn G0 G1 G2) (wn := cLa   L0 W0 G0 B0 P0 ++ cWa cI n L a gd w2 W0 W1 ++ cGa cI cZ op tn G0 G1 G2) (As := []) (rest := [.int (iI j)]) (r := n) (ci := 4) (q0 := 0) ⟨hx, hb, hml, hown, hts⟩ (c_X4_count n L a gd w2 W0 W1 (by first | assumption | omega) (by first | assumption | omega) (by first | assumption | omega)) (cwV 0 hts gX2_passMinute_X4_count rfl rfl rfl (by decide +kernel) ⟨Nat.le_of_ble_eq_true rfl, Nat.le_of_ble_eq_true rfl⟩) hK hNW hP hD hS hA rfl rfl rfl rfl (by decide) rfl rfl rfl rfl rfl rfl hl.1 rfl (Nat.le_of_ble_eq_true rfl) dX2_passMinute_22 ⟨Nat.zero_le _, Nat.zero_le _⟩ (fun H locs hP hD hS => ?_)
      refine li_icmp_gt (tgt := 55) hx hb dX2_passMinute_25 (by decide) (ib_i (by omega) (by omega)) (ib_i (by omega) (by omega)) (fun c_25 => ?_) (fun c_25 => ?_)
      · refine lv_iload_n hx hb dX2_passMinute_55 rfl (lv_at hl 1 rfl) ?_
        exact li_iret () hx hb hr hlocks hK hP hD hS dX2_passMinute_56 hQ (by rw [hh2, show j = n + 1 by omega]) (congrArg iI (by rw [hh, show j = n + 1 by omega]))
      · refine lv_iload_n hx hb dX2_passMinute_28 rfl (lv_at hl 1 rfl) ?_
        refine lv_aload_n hx hb dX2_passMinute_29 rfl (lv_at hl 2 rfl) ?_
        refine li_get (ci := 2) (v := .ref W0) (C := RX2) (T := TX2) (N := 4) (q0 := 0) (k := 0) hx hb hts hin_X2 hown hK hP rfl rfl (by decide) hf_37 rfl rfl dX2_passMinute_30 ?_
        refine lv_iload_n hx hb dX2_passMinute_33 rfl (lv_at hl 0 rfl) ?_
        refine li_const hx hb dX2_passMinute_34 ?_
        refine lv_aload_n hx hb dX2_passMinute_35 rfl (lv_at hl 2 rfl) ?_
        refine li_get (ci := 2) (v := .ref G0) (C := RX2) (T := TX2) (N := 4) (q0 := 0) (k := 1) hx hb hts hin_X2 hown hK hP rfl rfl (by decide) hf_12 rfl rfl dX2_passMinute_36 ?_
        refine lv_iload_n hx hb dX2_passMinute_39 rfl (lv_at hl 0 rfl) ?_
        refine cl_i0 (isC := [3, 4, 5]) (isR := [0, 1, 2]) (isN := [0, 1, 2, 3, 4, 5]) (wr := cLa   L0 W0 G0 B0 P0 ++ cWa cI n L a gd w2 W0 W1) (wn := cLa   L0 W0 G0 B0 P0 ++ cWa cI n L a gd w2 W0 W1 ++ cGa cI cZ op tn G0 G1 G2) (As := [.int (iI j)]) (rest := [.int (iI 4), .int (iI j), .ref W0, .int (iI sv)]) (r := tnA tn j) (ci := 1) (q0 := 0) ⟨hx, hb, hml, hown, hts⟩ (c_X1_turnsAt op tn G0 G1 G2 j (by first | assumption | omega)) (cwV 1 hts gX2_passMinute_X1_turnsAt rfl rfl rfl (by decide +kernel) ⟨Nat.le_of_ble_eq_true rfl, Nat.le_of_ble_eq_true rfl⟩) hK hNW hP hD hS hA rfl rfl rfl rfl (by decide) rfl rfl rfl rfl rfl rfl hl.1 rfl (Nat.le_of_ble_eq_true rfl) dX2_passMinute_40 ⟨Nat.zero_le _, Nat.zero_le _⟩ (fun H locs hP hD hS => ?_)
        refine li_mul hx hb dX2_passMinute_43 ?_
        refine cl_i0 (isC := [1, 2]) (isR := [0, 3, 4, 5]) (isN := [0, 4, 5, 1, 2, 3]) (wr := cLa   L0 W0 G0 B0 P0 ++ cGa cI cZ op tn G0 G1 G2) (wn := cLa   L0 W0 G0 B0 P0 ++ cWa cI n L a gd ((flW n L a j (4 * (tnA tn j)).toNat w2).2) W0 W1 ++ cGa cI cZ op tn G0 G1 G2) (As := [.int (iI j), .int (iI (4 * (tnA tn j)))]) (rest := [.int (iI sv)]) (r := (flW n L a j (4 * (tnA tn j)).toNat w2).1) (ci := 4) (q0 := 0) ⟨hx, hb, hml, hown, hts⟩ (c_X4_flow n L a gd w2 W0 W1 j (4 * (tnA tn j)) (by first | assumption | omega) (by first | assumption | omega) (by first | assumption | omega) (by exact hw2) (by first | assumption | omega) (by first | assumption | omega)) (cwV 2 hts gX2_passMinute_X4_flow rfl rfl rfl (by decide +kernel) ⟨Nat.le_of_ble_eq_true rfl, Nat.le_of_ble_eq_true rfl⟩) hK hNW hP hD hS hA rfl rfl rfl rfl (by decide) rfl rfl rfl rfl rfl rfl hl.1 rfl (Nat.le_of_ble_eq_true rfl) dX2_passMinute_44 ⟨Nat.zero_le _, Nat.zero_le _⟩ (fun H locs hP hD hS => ?_)
        refine li_add hx hb dX2_passMinute_47 ?_
        refine lv_istore_n (lv' := [(1, .int (iI (sv + ((flW n L a j (4 * (tnA tn j)).toNat w2).1)))), (2, .int (iI j)), (0, .ref L0)]) hx hb dX2_passMinute_48 rfl hl (by decide) rfl (fun ls hl => ?_)
        refine li_inc (j := 1) (lv' := [(2, .int (iI (j + 1))), (1, .int (iI (sv + ((flW n L a j (4 * (tnA tn j)).toNat w2).1)))), (0, .ref L0)]) hx hb dX2_passMinute_49 hl rfl (by decide) rfl (fun ls hl => ?_)
        refine lv_goto (tgt := 17) hx hb dX2_passMinute_52 (by decide) ?_
        exact ih (j + 1) (sv + ((flW n L a j (4 * (tnA tn j)).toNat w2).1)) ((flW n L a j (4 * (tnA tn j)).toNat w2).2) (by omega) (by rw [paW_s _ _ _ _ _ hj.1, hh, hh2]) (by rw [paW_s _ _ _ _ _ hj.1, hh2]) (by omega) _ _ hP hD hS _ (lv_sub hl [0, 1, 2] rfl)
  exact loop_17 (((n + 1 - 0) : Int) + 1).toNat 0 0 (w.1, w.2.1, w.2.2.1 + 1, w.2.2.2) (by omega) (by rfl) (by rfl) (by omega) _ _ hP hD hS _ (lv_sub hl [0, 1, 2] rfl)

set_option maxRecDepth 100000 in
set_option maxHeartbeats 4000000 in
theorem c_X2_gatesHold {l : Launch} {D : va_G} {cI cZ cJ : ClassId} (n : Int) (L : Int) (a : Int) (gd : Int) (w : Wt) (op : Int → Int) (tn : Int → Int) (L0 W0 W1 G0 G1 G2 B0 P0 : Nat) (hn : 1 ≤ n ∧ n ≤ 6) (hL : 5 ≤ L ∧ L ≤ 40) (ha : 1 ≤ a ∧ a ≤ 50) (hw : WI n L a w) (hop : opB op) (htn : tnB tn) (hgh : ∀ g, 0 ≤ g → g ≤ n → isO op g = true → hdA n L a w g = 0 ∧ beS tn g = false) : Di l yX2_gatesHold wsX2_gatesHold 5 [.ref L0] D (ty3 cI cZ cJ) (cLa   L0 W0 G0 B0 P0 ++ cWa cI n L a gd w W0 W1 ++ cGa cI cZ op tn G0 G1 G2) (1) (cLa   L0 W0 G0 B0 P0 ++ cWa cI n L a gd w W0 W1 ++ cGa cI cZ op tn G0 G1 G2) := by
  refine ct_i (plainFor_of_name (by decide)) rfl (Nat.le_of_ble_eq_true rfl) ?_
  intro p e s mI args below meth c_0 ls A hx hb hr hml hts hown hlocks hin hA hP hK hD hNW hS hl Q hQ
  have hown : s.vm.findClass RX2 = some mI.cls := hown
  have hl : lv_has ls 2 [(0, .ref L0)] := hl
  have hin_X2 : ∀ w ∈ wsX20, w ∈ wsX2_gatesHold := by decide +kernel
  have hf_12 := hts (.fieldLink RX2 12 "LockStaircase$Ladder" "gates" "LLockStaircase$Gates;") (by decide +kernel)
  have hf_37 := hts (.fieldLink RX2 37 "LockStaircase$Ladder" "water" "LLockStaircase$Water;") (by decide +kernel)
  refine li_const hx hb dX2_gatesHold_0 ?_
  refine lv_istore_n (lv' := [(1, .int (iI 0)), (0, .ref L0)]) hx hb dX2_gatesHold_1 rfl hl (by decide) rfl (fun ls hl => ?_)
  have loop_2 : ∀ (N : Nat) (j : Int), (0 ≤ j ∧ j ≤ n + 1) → n + 1 - j < (N : Int) → ∀ (H : Heap) (locs : List Loc), va_P D vwCl (cLa   L0 W0 G0 B0 P0 ++ cWa cI n L a gd w W0 W1 ++ cGa cI cZ op tn G0 G1 G2) H → va_D A (cLa   L0 W0 G0 B0 P0 ++ cWa cI n L a gd w W0 W1 ++ cGa cI cZ op tn G0 G1 G2) → va_S A s.heap H locs → ∀ (ls : Array Slot), lv_has ls 2 [(1, .int (iI j)), (0, .ref L0)] → W p l e (rK 5 0 0) s mI args below meth c_0 H locs 0 0 Q (F0 mI 2 ls []) := by
    intro N
    induction N with
    | zero =>
      intro j hj hN
      exact absurd hN (by omega)
    | succ N ih =>
      intro j hj hN H locs hP hD hS ls hl
      have b1 : j ≤ n → -2000 ≤ lvA n L a w j ∧ lvA n L a w j ≤ 2000 := fun q => lvA_b hn hL ha hw j q
      have b2 := lvA_b hn hL ha hw (j - 1) (by omega)
      have eh : hdA n L a w j = lvA n L a w j - lvA n L a w (j - 1) := rfl
      refine lv_iload_n hx hb dX2_gatesHold_2 rfl (lv_at hl 0 rfl) ?_
      refine lv_aload_n hx hb dX2_gatesHold_3 rfl (lv_at hl 1 rfl) ?_
      refine li_get (ci := 2) (v := .ref W0) (C := RX2) (T := TX2) (N := 4) (q0 := 0) (k := 0) hx hb hts hin_X2 hown hK hP rfl rfl (by decide) hf_37 rfl rfl dX2_gatesHold_4 ?_
      refine cl_i0 (isC := [1, 2]) (isR := [0, 3, 4, 5]) (isN := [0, 4, 5, 1, 2, 3]) (wr := cLa   L0 W0 G0 B0 P0 ++ cGa cI cZ op tn G0 G1 G2) (wn := cLa   L0 W0 G0 B0 P0 ++ cWa cI n L a gd w W0 W1 ++ cGa cI cZ op tn G0 G1 G2) (As := []) (rest := [.int (iI j)]) (r := n) (ci := 4) (q0 := 0) ⟨hx, hb, hml, hown, hts⟩ (c_X4_count n L a gd w W0 W1 (by first | assumption | omega) (by first | assumption | omega) (by first | assumption | omega)) (cwV 0 hts gX2_gatesHold_X4_count rfl rfl rfl (by decide +kernel) ⟨Nat.le_of_ble_eq_true rfl, Nat.le_of_ble_eq_true rfl⟩) hK hNW hP hD hS hA rfl rfl rfl rfl (by decide) rfl rfl rfl rfl rfl rfl hl.1 rfl (Nat.le_of_ble_eq_true rfl) dX2_gatesHold_7 ⟨Nat.zero_le _, Nat.zero_le _⟩ (fun H locs hP hD hS => ?_)
      refine li_icmp_gt (tgt := 54) hx hb dX2_gatesHold_10 (by decide) (ib_i (by omega) (by omega)) (ib_i (by omega) (by omega)) (fun c_10 => ?_) (fun c_10 => ?_)
      · refine li_const hx hb dX2_gatesHold_54 ?_
        exact li_zret () hx hb hr hlocks hK hP hD hS (by decide) dX2_gatesHold_55 hQ rfl (congrArg iI (rfl))
      · refine lv_aload_n hx hb dX2_gatesHold_13 rfl (lv_at hl 1 rfl) ?_
        refine li_get (ci := 2) (v := .ref G0) (C := RX2) (T := TX2) (N := 4) (q0 := 0) (k := 1) hx hb hts hin_X2 hown hK hP rfl rfl (by decide) hf_12 rfl rfl dX2_gatesHold_14 ?_
        refine lv_iload_n hx hb dX2_gatesHold_17 rfl (lv_at hl 0 rfl) ?_
        refine cl_i0 (isC := [3, 4, 5]) (isR := [0, 1, 2]) (isN := [0, 1, 2, 3, 4, 5]) (wr := cLa   L0 W0 G0 B0 P0 ++ cWa cI n L a gd w W0 W1) (wn := cLa   L0 W0 G0 B0 P0 ++ cWa cI n L a gd w W0 W1 ++ cGa cI cZ op tn G0 G1 G2) (As := [.int (iI j)]) (rest := []) (r := bz (isO op j = true)) (ci := 1) (q0 := 0) ⟨hx, hb, hml, hown, hts⟩ (c_X1_isOpenAt op tn G0 G1 G2 j (by first | assumption | omega) (by first | assumption | omega)) (cwV 1 hts gX2_gatesHold_X1_isOpenAt rfl rfl rfl (by decide +kernel) ⟨Nat.le_of_ble_eq_true rfl, Nat.le_of_ble_eq_true rfl⟩) hK hNW hP hD hS hA rfl rfl rfl rfl (by decide) rfl rfl rfl rfl rfl rfl hl.1 rfl (Nat.le_of_ble_eq_true rfl) dX2_gatesHold_18 ⟨Nat.zero_le _, Nat.zero_le _⟩ (fun H locs hP hD hS => ?_)
        refine li_ifb_eq (tgt := 48) hx hb dX2_gatesHold_21 (by decide) (fun c_21 => ?_) (fun c_21 => ?_)
        · refine li_inc (j := 0) (lv' := [(1, .int (iI (j + 1))), (0, .ref L0)]) hx hb dX2_gatesHold_48 hl rfl (by decide) rfl (fun ls hl => ?_)
          refine lv_goto (tgt := 2) hx hb dX2_gatesHold_51 (by decide) ?_
          exact ih (j + 1) (by omega) (by omega) _ _ hP hD hS _ (lv_sub hl [0, 1] rfl)
        · have hg9 := hgh j (by omega) (by omega) (by assumption)
          refine lv_aload_n hx hb dX2_gatesHold_24 rfl (lv_at hl 1 rfl) ?_
          refine li_get (ci := 2) (v := .ref W0) (C := RX2) (T := TX2) (N := 4) (q0 := 0) (k := 0) hx hb hts hin_X2 hown hK hP rfl rfl (by decide) hf_37 rfl rfl dX2_gatesHold_25 ?_
          refine lv_iload_n hx hb dX2_gatesHold_28 rfl (lv_at hl 0 rfl) ?_
          refine cl_i0 (isC := [1, 2]) (isR := [0, 3, 4, 5]) (isN := [0, 4, 5, 1, 2, 3]) (wr := cLa   L0 W0 G0 B0 P0 ++ cGa cI cZ op tn G0 G1 G2) (wn := cLa   L0 W0 G0 B0 P0 ++ cWa cI n L a gd w W0 W1 ++ cGa cI cZ op tn G0 G1 G2) (As := [.int (iI j)]) (rest := []) (r := hdA n L a w j) (ci := 4) (q0 := 0) ⟨hx, hb, hml, hown, hts⟩ (c_X4_headOver n L a gd w W0 W1 j (by first | assumption | omega) (by first | assumption | omega) (by first | assumption | omega) (by first | assumption | omega) (by first | assumption | omega)) (cwV 1 hts gX2_gatesHold_X4_headOver rfl rfl rfl (by decide +kernel) ⟨Nat.le_of_ble_eq_true rfl, Nat.le_of_ble_eq_true rfl⟩) hK hNW hP hD hS hA rfl rfl rfl rfl (by decide) rfl rfl rfl rfl rfl rfl hl.1 rfl (Nat.le_of_ble_eq_true rfl) dX2_gatesHold_29 ⟨Nat.zero_le _, Nat.zero_le _⟩ (fun H locs hP hD hS => ?_)
          refine li_if_ne_f (tgt := 46) hx hb dX2_gatesHold_32 (by decide) (ib_i (by omega) (by omega)) (by exact hg9.1) ?_
          refine lv_aload_n hx hb dX2_gatesHold_35 rfl (lv_at hl 1 rfl) ?_
          refine li_get (ci := 2) (v := .ref G0) (C := RX2) (T := TX2) (N := 4) (q0 := 0) (k := 1) hx hb hts hin_X2 hown hK hP rfl rfl (by decide) hf_12 rfl rfl dX2_gatesHold_36 ?_
          refine lv_iload_n hx hb dX2_gatesHold_39 rfl (lv_at hl 0 rfl) ?_
          refine cl_i0 (isC := [3, 4, 5]) (isR := [0, 1, 2]) (isN := [0, 1, 2, 3, 4, 5]) (wr := cLa   L0 W0 G0 B0 P0 ++ cWa cI n L a gd w W0 W1) (wn := cLa   L0 W0 G0 B0 P0 ++ cWa cI n L a gd w W0 W1 ++ cGa cI cZ op tn G0 G1 G2) (As := [.int (iI j)]) (rest := []) (r := bz (beS tn j = true)) (ci := 1) (q0 := 0) ⟨hx, hb, hml, hown, hts⟩ (c_X1_isSluiceUpBeside op tn G0 G1 G2 j (by first | assumption | omega) (by first | assumption | omega)) (cwV 1 hts gX2_gatesHold_X1_isSluiceUpBeside rfl rfl rfl (by decide +kernel) ⟨Nat.le_of_ble_eq_true rfl, Nat.le_of_ble_eq_true rfl⟩) hK hNW hP hD hS hA rfl rfl rfl rfl (by decide) rfl rfl rfl rfl rfl rfl hl.1 rfl (Nat.le_of_ble_eq_true rfl) dX2_gatesHold_40 ⟨Nat.zero_le _, Nat.zero_le _⟩ (fun H locs hP hD hS => ?_)
          refine li_ifb_eq (tgt := 48) hx hb dX2_gatesHold_43 (by decide) (fun c_43 => ?_) (fun c_43 => ?_)
          · refine li_inc (j := 0) (lv' := [(1, .int (iI (j + 1))), (0, .ref L0)]) hx hb dX2_gatesHold_48 hl rfl (by decide) rfl (fun ls hl => ?_)
            refine lv_goto (tgt := 2) hx hb dX2_gatesHold_51 (by decide) ?_
            exact ih (j + 1) (by omega) (by omega) _ _ hP hD hS _ (lv_sub hl [0, 1] rfl)
          · exact absurd c_43 (by rw [hg9.2]; decide)
  exact loop_2 (((n + 1 - 0) : Int) + 1).toNat 0 (by omega) (by omega) _ _ hP hD hS _ (lv_sub hl [0, 1] rfl)

set_option maxRecDepth 100000 in
set_option maxHeartbeats 4000000 in
theorem c_X2_boatsFit {l : Launch} {D : va_G} {cI cZ cJ : ClassId} (n : Int) (L : Int) (a : Int) (gd : Int) (w : Wt) (cnt : Int) (ln : Int → Int) (dr : Int → Int) (pl : Int → Int) (L0 W0 W1 B0 B1 B2 B3 G0 P0 : Nat) (hn : 1 ≤ n ∧ n ≤ 6) (hL : 5 ≤ L ∧ L ≤ 40) (ha : 1 ≤ a ∧ a ≤ 50) (hcnt : 0 ≤ cnt ∧ cnt ≤ 10) (hln : lnB ln) (hpi : plI n pl) (hbf : ∀ x, 1 ≤ x → x ≤ n → sumZ (lenP pl ln x) cnt.toNat ≤ 60) : Di l yX2_boatsFit wsX2_boatsFit 5 [.ref L0] D (ty3 cI cZ cJ) (cLa   L0 W0 G0 B0 P0 ++ cWa cI n L a gd w W0 W1 ++ cFl cI cnt ln dr pl B0 B1 B2 B3) (1) (cLa   L0 W0 G0 B0 P0 ++ cWa cI n L a gd w W0 W1 ++ cFl cI cnt ln dr pl B0 B1 B2 B3) := by
  refine ct_i (plainFor_of_name (by decide)) rfl (Nat.le_of_ble_eq_true rfl) ?_
  intro p e s mI args below meth c_0 ls A hx hb hr hml hts hown hlocks hin hA hP hK hD hNW hS hl Q hQ
  have hown : s.vm.findClass RX2 = some mI.cls := hown
  have hl : lv_has ls 2 [(0, .ref L0)] := hl
  have hin_X2 : ∀ w ∈ wsX20, w ∈ wsX2_boatsFit := by decide +kernel
  have hf_21 := hts (.fieldLink RX2 21 "LockStaircase$Ladder" "fleet" "LLockStaircase$Fleet;") (by decide +kernel)
  refine li_const hx hb dX2_boatsFit_0 ?_
  refine lv_istore_n (lv' := [(1, .int (iI 1)), (0, .ref L0)]) hx hb dX2_boatsFit_1 rfl hl (by decide) rfl (fun ls hl => ?_)
  have loop_2 : ∀ (N : Nat) (j : Int), (1 ≤ j ∧ j ≤ n + 1) → n + 1 - j < (N : Int) → ∀ (H : Heap) (locs : List Loc), va_P D vwCl (cLa   L0 W0 G0 B0 P0 ++ cWa cI n L a gd w W0 W1 ++ cFl cI cnt ln dr pl B0 B1 B2 B3) H → va_D A (cLa   L0 W0 G0 B0 P0 ++ cWa cI n L a gd w W0 W1 ++ cFl cI cnt ln dr pl B0 B1 B2 B3) → va_S A s.heap H locs → ∀ (ls : Array Slot), lv_has ls 2 [(1, .int (iI j)), (0, .ref L0)] → W p l e (rK 5 0 0) s mI args below meth c_0 H locs 0 0 Q (F0 mI 2 ls []) := by
    intro N
    induction N with
    | zero =>
      intro j hj hN
      exact absurd hN (by omega)
    | succ N ih =>
      intro j hj hN H locs hP hD hS ls hl
      refine lv_iload_n hx hb dX2_boatsFit_2 rfl (lv_at hl 0 rfl) ?_
      refine lv_aload_n hx hb dX2_boatsFit_3 rfl (lv_at hl 1 rfl) ?_
      refine cl_i0 (isC := [0, 1, 2]) (isR := [3, 4, 5, 6]) (isN := [4, 5, 6, 0, 1, 2, 3]) (wr := cFl cI cnt ln dr pl B0 B1 B2 B3) (wn := cLa   L0 W0 G0 B0 P0 ++ cWa cI n L a gd w W0 W1 ++ cFl cI cnt ln dr pl B0 B1 B2 B3) (As := []) (rest := [.int (iI j)]) (r := n + 1) (ci := 2) (q0 := 0) ⟨hx, hb, hml, hown, hts⟩ (c_X2_poundPlace n L a gd w L0 W0 W1 G0 B0 P0 (by first | assumption | omega) (by first | assumption | omega) (by first | assumption | omega)) (cwV 0 hts gX2_boatsFit_X2_poundPlace rfl rfl rfl (by decide +kernel) ⟨Nat.le_of_ble_eq_true rfl, Nat.le_of_ble_eq_true rfl⟩) hK hNW hP hD hS hA rfl rfl rfl rfl (by decide) rfl rfl rfl rfl rfl rfl hl.1 rfl (Nat.le_of_ble_eq_true rfl) dX2_boatsFit_4 ⟨Nat.zero_le _, Nat.zero_le _⟩ (fun H locs hP hD hS => ?_)
      refine li_icmp_ge (tgt := 31) hx hb dX2_boatsFit_7 (by decide) (ib_i (by omega) (by omega)) (ib_i (by omega) (by omega)) (fun c_7 => ?_) (fun c_7 => ?_)
      · refine li_const hx hb dX2_boatsFit_31 ?_
        exact li_zret () hx hb hr hlocks hK hP hD hS (by decide) dX2_boatsFit_32 hQ rfl (congrArg iI (rfl))
      · refine lv_aload_n hx hb dX2_boatsFit_10 rfl (lv_at hl 1 rfl) ?_
        refine li_get (ci := 2) (v := .ref B0) (C := RX2) (T := TX2) (N := 4) (q0 := 0) (k := 2) hx hb hts hin_X2 hown hK hP rfl rfl (by decide) hf_21 rfl rfl dX2_boatsFit_11 ?_
        refine lv_iload_n hx hb dX2_boatsFit_14 rfl (lv_at hl 0 rfl) ?_
        refine cl_i0 (isC := [3, 4, 5, 6]) (isR := [0, 1, 2]) (isN := [0, 1, 2, 3, 4, 5, 6]) (wr := cLa   L0 W0 G0 B0 P0 ++ cWa cI n L a gd w W0 W1) (wn := cLa   L0 W0 G0 B0 P0 ++ cWa cI n L a gd w W0 W1 ++ cFl cI cnt ln dr pl B0 B1 B2 B3) (As := [.int (iI j)]) (rest := []) (r := sumZ (lenP pl ln j) cnt.toNat) (ci := 0) (q0 := 0) ⟨hx, hb, hml, hown, hts⟩ (c_X0_lengthIn cnt ln dr pl B0 B1 B2 B3 j (by first | assumption | omega) (by exact plI_B hn hpi) (by first | assumption | omega)) (cwV 1 hts gX2_boatsFit_X0_lengthIn rfl rfl rfl (by decide +kernel) ⟨Nat.le_of_ble_eq_true rfl, Nat.le_of_ble_eq_true rfl⟩) hK hNW hP hD hS hA rfl rfl rfl rfl (by decide) rfl rfl rfl rfl rfl rfl hl.1 rfl (Nat.le_of_ble_eq_true rfl) dX2_boatsFit_15 ⟨Nat.zero_le _, Nat.zero_le _⟩ (fun H locs hP hD hS => ?_)
        refine li_bipush hx hb dX2_boatsFit_18 (by decide) ?_
        have l3 := lenS_b (pl := pl) hln j hcnt.1 hcnt.2
        refine li_icmp_le_t (tgt := 25) hx hb dX2_boatsFit_20 (by decide) (ib_i (by omega) (by omega)) (by decide) (by exact hbf j (by omega) (by omega)) ?_
        refine li_inc (j := 0) (lv' := [(1, .int (iI (j + 1))), (0, .ref L0)]) hx hb dX2_boatsFit_25 hl rfl (by decide) rfl (fun ls hl => ?_)
        refine lv_goto (tgt := 2) hx hb dX2_boatsFit_28 (by decide) ?_
        exact ih (j + 1) (by omega) (by omega) _ _ hP hD hS _ (lv_sub hl [0, 1] rfl)
  exact loop_2 (((n + 1 - 1) : Int) + 1).toNat 1 (by omega) (by omega) _ _ hP hD hS _ (lv_sub hl [0, 1] rfl)
