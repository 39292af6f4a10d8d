set_option maxRecDepth 100000 in
set_option maxHeartbeats 4000000 in
theorem c_X5_needChamber_no {l : Launch} {D : va_G} {cI cZ cJ : ClassId} (hl0 : l.stackTraces = false) (n : Int) (L : Int) (a : Int) (gd : Int) (w : Wt) (S0 L0 W0 W1 L0t G0 B0 P0 : Nat) (x : Int) (hn : 1 ≤ n ∧ n ≤ 6) (hL : 5 ≤ L ∧ L ≤ 40) (ha : 1 ≤ a ∧ a ≤ 50) (i_x : -2147483648 ≤ x ∧ x < 2147483648) (hv : ¬ (0 ≤ x ∧ x ≤ n - 1)) : CT l yX5_needChamber wsX5_needChamber 3 [.ref S0, .int (iI x)] D (ty3 cI cZ cJ) (cLs   S0 L0 L0t ++ cLa   L0 W0 G0 B0 P0 ++ cWa cI n L a gd w W0 W1) "java/lang/IndexOutOfBoundsException" := by
  refine ct_x (by decide) rfl (Nat.le_of_ble_eq_true rfl) ?_
  intro p e s mI args below meth c_0 ls A hx hb hml hts hown hlocks htab hA hP hK hD hNW hXP hS hl Q hQ
  have hown : s.vm.findClass RX5 = some mI.cls := hown
  have hl : lv_has ls 2 [(0, .ref S0), (1, .int (iI x))] := hl
  have hin_X2 : ∀ w ∈ wsX20, w ∈ wsX5_needChamber := by decide +kernel
  have hin_X5 : ∀ w ∈ wsX50, w ∈ wsX5_needChamber := by decide +kernel
  have hcl_1 := hts (.classLink RX5 140 "java/lang/IndexOutOfBoundsException") (by decide +kernel)
  have hf_14 := hts (.fieldLink RX5 14 "LockStaircase" "ladder" "LLockStaircase$Ladder;") (by decide +kernel)
  have hci_1 := hts (.initialized "java/lang/IndexOutOfBoundsException") (by decide +kernel)
  refine lv_iload_n hx hb dX5_needChamber_0 rfl (lv_at hl 1 rfl) ?_
  refine li_if_lt (tgt := 18) hx hb dX5_needChamber_1 (by decide) (ib_i (by omega) (by omega)) (fun c_1 => ?_) (fun c_1 => ?_)
  · exact li_thr (text := "no such chamber") hx hb hl0 140 hown (by decide +kernel) hcl_1 hci_1 hXP (by decide) (fun w hw => hts w ((show ∀ w ∈ (vx_atS RX5 144 "java/lang/IndexOutOfBoundsException" thN).filter goodWord, w ∈ wsX5_needChamber by decide +kernel) w hw)) th_a1 th_b1 hS (hl.1.trans hml.symm) dX5_needChamber_18 dX5_needChamber_21 dX5_needChamber_22 dX5_needChamber_24 dX5_needChamber_27 htab (Nat.le_of_ble_eq_true rfl) (Nat.le_of_ble_eq_true rfl) (Nat.le_of_ble_eq_true rfl) (Nat.le_of_ble_eq_true rfl) hlocks hP hK hD hQ rfl rfl
  · refine lv_iload_n hx hb dX5_needChamber_4 rfl (lv_at hl 1 rfl) ?_
    refine lv_aload_n hx hb dX5_needChamber_5 rfl (lv_at hl 0 rfl) ?_
    refine li_get (ci := 5) (v := .ref L0) (C := RX5) (T := TX5) (N := 2) (q0 := 0) (k := 0) hx hb hts hin_X5 hown hK hP rfl rfl (by decide) hf_14 rfl rfl dX5_needChamber_6 ?_
    refine li_getN (own := RX5) (ref := "LockStaircase$Ladder") (host := "LockStaircase") (index := 21) (ci := 2) (v := .ref W0) (C := RX2) (T := TX2) (N := 4) (q0 := 1) (k := 0) hx hb hts hin_X2 hown hK hP rfl rfl (by decide) hNW nw_X5_21 rfl rfl dX5_needChamber_9 ?_
    refine cl_i0 (isC := [2, 3]) (isR := [0, 1]) (isN := [0, 1, 2, 3]) (wr := cLs   S0 L0 L0t ++ cLa   L0 W0 G0 B0 P0) (wn := cLs   S0 L0 L0t ++ cLa   L0 W0 G0 B0 P0 ++ cWa cI n L a gd w W0 W1) (As := []) (rest := [.int (iI x)]) (r := n) (ci := 4) (q0 := 0) ⟨hx, hb, hml, hown, hts⟩ (c_X4_count n L a gd w W0 W1 (by first | assumption | omega) (by first | assumption | omega) (by first | assumption | omega)) (cwV 0 hts gX5_needChamber_X4_count rfl rfl rfl (by decide +kernel) ⟨Nat.le_of_ble_eq_true rfl, Nat.le_of_ble_eq_true rfl⟩) hK hNW hP hD hS hA rfl rfl rfl rfl (by decide) rfl rfl rfl rfl rfl rfl hl.1 rfl (Nat.le_of_ble_eq_true rfl) dX5_needChamber_12 ⟨Nat.zero_le _, Nat.zero_le _⟩ (fun H locs hP hD hS => ?_)
    refine li_icmp_lt (tgt := 28) hx hb dX5_needChamber_15 (by decide) (ib_i (by omega) (by omega)) (ib_i (by omega) (by omega)) (fun c_15 => ?_) (fun c_15 => ?_)
    · exfalso; omega
    · exact li_thr (text := "no such chamber") hx hb hl0 140 hown (by decide +kernel) hcl_1 hci_1 hXP (by decide) (fun w hw => hts w ((show ∀ w ∈ (vx_atS RX5 144 "java/lang/IndexOutOfBoundsException" thN).filter goodWord, w ∈ wsX5_needChamber by decide +kernel) w hw)) th_a1 th_b1 hS (hl.1.trans hml.symm) dX5_needChamber_18 dX5_needChamber_21 dX5_needChamber_22 dX5_needChamber_24 dX5_needChamber_27 htab (Nat.le_of_ble_eq_true rfl) (Nat.le_of_ble_eq_true rfl) (Nat.le_of_ble_eq_true rfl) (Nat.le_of_ble_eq_true rfl) hlocks hP hK hD hQ rfl rfl

set_option maxRecDepth 100000 in
set_option maxHeartbeats 4000000 in
theorem c_X5_needGate_no {l : Launch} {D : va_G} {cI cZ cJ : ClassId} (hl0 : l.stackTraces = false) (n : Int) (L : Int) (a : Int) (gd : Int) (w : Wt) (S0 L0 W0 W1 L0t G0 B0 P0 : Nat) (x : Int) (hn : 1 ≤ n ∧ n ≤ 6) (hL : 5 ≤ L ∧ L ≤ 40) (ha : 1 ≤ a ∧ a ≤ 50) (i_x : -2147483648 ≤ x ∧ x < 2147483648) (hv : ¬ (0 ≤ x ∧ x ≤ n)) : CT l yX5_needGate wsX5_needGate 3 [.ref S0, .int (iI x)] D (ty3 cI cZ cJ) (cLs   S0 L0 L0t ++ cLa   L0 W0 G0 B0 P0 ++ cWa cI n L a gd w W0 W1) "java/lang/IndexOutOfBoundsException" := by
  refine ct_x (by decide) rfl (Nat.le_of_ble_eq_true rfl) ?_
  intro p e s mI args below meth c_0 ls A hx hb hml hts hown hlocks htab hA hP hK hD hNW hXP hS hl Q hQ
  have hown : s.vm.findClass RX5 = some mI.cls := hown
  have hl : lv_has ls 2 [(0, .ref S0), (1, .int (iI x))] := hl
  have hin_X2 : ∀ w ∈ wsX20, w ∈ wsX5_needGate := by decide +kernel
  have hin_X5 : ∀ w ∈ wsX50, w ∈ wsX5_needGate := by decide +kernel
  have hcl_1 := hts (.classLink RX5 140 "java/lang/IndexOutOfBoundsException") (by decide +kernel)
  have hf_14 := hts (.fieldLink RX5 14 "LockStaircase" "ladder" "LLockStaircase$Ladder;") (by decide +kernel)
  have hci_1 := hts (.initialized "java/lang/IndexOutOfBoundsException") (by decide +kernel)
  refine lv_iload_n hx hb dX5_needGate_0 rfl (lv_at hl 1 rfl) ?_
  refine li_if_lt (tgt := 18) hx hb dX5_needGate_1 (by decide) (ib_i (by omega) (by omega)) (fun c_1 => ?_) (fun c_1 => ?_)
  · exact li_thr (text := "no such gate") hx hb hl0 140 hown (by decide +kernel) hcl_1 hci_1 hXP (by decide) (fun w hw => hts w ((show ∀ w ∈ (vx_atS RX5 144 "java/lang/IndexOutOfBoundsException" thN).filter goodWord, w ∈ wsX5_needGate by decide +kernel) w hw)) th_a1 th_b1 hS (hl.1.trans hml.symm) dX5_needGate_18 dX5_needGate_21 dX5_needGate_22 dX5_needGate_24 dX5_needGate_27 htab (Nat.le_of_ble_eq_true rfl) (Nat.le_of_ble_eq_true rfl) (Nat.le_of_ble_eq_true rfl) (Nat.le_of_ble_eq_true rfl) hlocks hP hK hD hQ rfl rfl
  · refine lv_iload_n hx hb dX5_needGate_4 rfl (lv_at hl 1 rfl) ?_
    refine lv_aload_n hx hb dX5_needGate_5 rfl (lv_at hl 0 rfl) ?_
    refine li_get (ci := 5) (v := .ref L0) (C := RX5) (T := TX5) (N := 2) (q0 := 0) (k := 0) hx hb hts hin_X5 hown hK hP rfl rfl (by decide) hf_14 rfl rfl dX5_needGate_6 ?_
    refine li_getN (own := RX5) (ref := "LockStaircase$Ladder") (host := "LockStaircase") (index := 21) (ci := 2) (v := .ref W0) (C := RX2) (T := TX2) (N := 4) (q0 := 1) (k := 0) hx hb hts hin_X2 hown hK hP rfl rfl (by decide) hNW nw_X5_21 rfl rfl dX5_needGate_9 ?_
    refine cl_i0 (isC := [2, 3]) (isR := [0, 1]) (isN := [0, 1, 2, 3]) (wr := cLs   S0 L0 L0t ++ cLa   L0 W0 G0 B0 P0) (wn := cLs   S0 L0 L0t ++ cLa   L0 W0 G0 B0 P0 ++ cWa cI n L a gd w W0 W1) (As := []) (rest := [.int (iI x)]) (r := n) (ci := 4) (q0 := 0) ⟨hx, hb, hml, hown, hts⟩ (c_X4_count n L a gd w W0 W1 (by first | assumption | omega) (by first | assumption | omega) (by first | assumption | omega)) (cwV 0 hts gX5_needGate_X4_count rfl rfl rfl (by decide +kernel) ⟨Nat.le_of_ble_eq_true rfl, Nat.le_of_ble_eq_true rfl⟩) hK hNW hP hD hS hA rfl rfl rfl rfl (by decide) rfl rfl rfl rfl rfl rfl hl.1 rfl (Nat.le_of_ble_eq_true rfl) dX5_needGate_12 ⟨Nat.zero_le _, Nat.zero_le _⟩ (fun H locs hP hD hS => ?_)
    refine li_icmp_le (tgt := 28) hx hb dX5_needGate_15 (by decide) (ib_i (by omega) (by omega)) (ib_i (by omega) (by omega)) (fun c_15 => ?_) (fun c_15 => ?_)
    · exfalso; omega
    · exact li_thr (text := "no such gate") hx hb hl0 140 hown (by decide +kernel) hcl_1 hci_1 hXP (by decide) (fun w hw => hts w ((show ∀ w ∈ (vx_atS RX5 144 "java/lang/IndexOutOfBoundsException" thN).filter goodWord, w ∈ wsX5_needGate by decide +kernel) w hw)) th_a1 th_b1 hS (hl.1.trans hml.symm) dX5_needGate_18 dX5_needGate_21 dX5_needGate_22 dX5_needGate_24 dX5_needGate_27 htab (Nat.le_of_ble_eq_true rfl) (Nat.le_of_ble_eq_true rfl) (Nat.le_of_ble_eq_true rfl) (Nat.le_of_ble_eq_true rfl) hlocks hP hK hD hQ rfl rfl

set_option maxRecDepth 100000 in
set_option maxHeartbeats 4000000 in
theorem c_X5_needBoat_no {l : Launch} {D : va_G} {cI cZ cJ : ClassId} (hl0 : l.stackTraces = false) (cnt : Int) (ln : Int → Int) (dr : Int → Int) (pl : Int → Int) (S0 L0 B0 B1 B2 B3 L0t W0 G0 P0 : Nat) (x : Int) (hcnt : 0 ≤ cnt ∧ cnt ≤ 10) (i_x : -2147483648 ≤ x ∧ x < 2147483648) (hv : ¬ (0 ≤ x ∧ x ≤ cnt - 1)) : CT l yX5_needBoat wsX5_needBoat 3 [.ref S0, .int (iI x)] D (ty3 cI cZ cJ) (cLs   S0 L0 L0t ++ cLa   L0 W0 G0 B0 P0 ++ cFl cI cnt ln dr pl B0 B1 B2 B3) "java/lang/IndexOutOfBoundsException" := by
  refine ct_x (by decide) rfl (Nat.le_of_ble_eq_true rfl) ?_
  intro p e s mI args below meth c_0 ls A hx hb hml hts hown hlocks htab hA hP hK hD hNW hXP hS hl Q hQ
  have hown : s.vm.findClass RX5 = some mI.cls := hown
  have hl : lv_has ls 2 [(0, .ref S0), (1, .int (iI x))] := hl
  have hin_X0 : ∀ w ∈ wsX00, w ∈ wsX5_needBoat := by decide +kernel
  have hin_X2 : ∀ w ∈ wsX20, w ∈ wsX5_needBoat := by decide +kernel
  have hin_X5 : ∀ w ∈ wsX50, w ∈ wsX5_needBoat := by decide +kernel
  have hcl_1 := hts (.classLink RX5 140 "java/lang/IndexOutOfBoundsException") (by decide +kernel)
  have hf_14 := hts (.fieldLink RX5 14 "LockStaircase" "ladder" "LLockStaircase$Ladder;") (by decide +kernel)
  have hci_1 := hts (.initialized "java/lang/IndexOutOfBoundsException") (by decide +kernel)
  refine lv_iload_n hx hb dX5_needBoat_0 rfl (lv_at hl 1 rfl) ?_
  refine li_if_lt (tgt := 18) hx hb dX5_needBoat_1 (by decide) (ib_i (by omega) (by omega)) (fun c_1 => ?_) (fun c_1 => ?_)
  · exact li_thr (text := "no such boat") hx hb hl0 140 hown (by decide +kernel) hcl_1 hci_1 hXP (by decide) (fun w hw => hts w ((show ∀ w ∈ (vx_atS RX5 144 "java/lang/IndexOutOfBoundsException" thN).filter goodWord, w ∈ wsX5_needBoat by decide +kernel) w hw)) th_a1 th_b1 hS (hl.1.trans hml.symm) dX5_needBoat_18 dX5_needBoat_21 dX5_needBoat_22 dX5_needBoat_24 dX5_needBoat_27 htab (Nat.le_of_ble_eq_true rfl) (Nat.le_of_ble_eq_true rfl) (Nat.le_of_ble_eq_true rfl) (Nat.le_of_ble_eq_true rfl) hlocks hP hK hD hQ rfl rfl
  · refine lv_iload_n hx hb dX5_needBoat_4 rfl (lv_at hl 1 rfl) ?_
    refine lv_aload_n hx hb dX5_needBoat_5 rfl (lv_at hl 0 rfl) ?_
    refine li_get (ci := 5) (v := .ref L0) (C := RX5) (T := TX5) (N := 2) (q0 := 0) (k := 0) hx hb hts hin_X5 hown hK hP rfl rfl (by decide) hf_14 rfl rfl dX5_needBoat_6 ?_
    refine li_getN (own := RX5) (ref := "LockStaircase$Ladder") (host := "LockStaircase") (index := 115) (ci := 2) (v := .ref B0) (C := RX2) (T := TX2) (N := 4) (q0 := 1) (k := 2) hx hb hts hin_X2 hown hK hP rfl rfl (by decide) hNW nw_X5_115 rfl rfl dX5_needBoat_9 ?_
    refine li_getN (own := RX5) (ref := "LockStaircase$Fleet") (host := "LockStaircase") (index := 119) (ci := 0) (v := .int (iI cnt)) (C := RX0) (T := TX0) (N := 4) (q0 := 2) (k := 3) hx hb hts hin_X0 hown hK hP rfl rfl (by decide) hNW nw_X5_119 rfl rfl dX5_needBoat_12 ?_
    refine li_icmp_lt (tgt := 28) hx hb dX5_needBoat_15 (by decide) (ib_i (by omega) (by omega)) (ib_i (by omega) (by omega)) (fun c_15 => ?_) (fun c_15 => ?_)
    · exfalso; omega
    · exact li_thr (text := "no such boat") hx hb hl0 140 hown (by decide +kernel) hcl_1 hci_1 hXP (by decide) (fun w hw => hts w ((show ∀ w ∈ (vx_atS RX5 144 "java/lang/IndexOutOfBoundsException" thN).filter goodWord, w ∈ wsX5_needBoat by decide +kernel) w hw)) th_a1 th_b1 hS (hl.1.trans hml.symm) dX5_needBoat_18 dX5_needBoat_21 dX5_needBoat_22 dX5_needBoat_24 dX5_needBoat_27 htab (Nat.le_of_ble_eq_true rfl) (Nat.le_of_ble_eq_true rfl) (Nat.le_of_ble_eq_true rfl) (Nat.le_of_ble_eq_true rfl) hlocks hP hK hD hQ rfl rfl

set_option maxRecDepth 100000 in
set_option maxHeartbeats 4000000 in
theorem c_X5_levelOf_no {l : Launch} {D : va_G} {cI cZ cJ : ClassId} (hl0 : l.stackTraces = false) (n : Int) (L : Int) (a : Int) (gd : Int) (w : Wt) (op : Int → Int) (tn : Int → Int) (cnt : Int) (ln : Int → Int) (dr : Int → Int) (pl : Int → Int) (rp : Rt) (S0 L0 W0 W1 G0 G1 G2 B0 B1 B2 B3 P0 L0t : Nat) (x : Int) (hn : 1 ≤ n ∧ n ≤ 6) (hL : 5 ≤ L ∧ L ≤ 40) (ha : 1 ≤ a ∧ a ≤ 50) (i_x : -2147483648 ≤ x ∧ x < 2147483648) (hv : ¬ (0 ≤ x ∧ x ≤ n - 1)) : CT l yX5_levelOf wsX5_levelOf 25 [.ref S0, .int (iI x)] D (ty3 cI cZ cJ) (cLs   S0 L0 L0t ++ cLa   L0 W0 G0 B0 P0 ++ cWa cI n L a gd w W0 W1 ++ cGa cI cZ op tn G0 G1 G2 ++ cFl cI cnt ln dr pl B0 B1 B2 B3 ++ cRp  rp P0) "java/lang/IndexOutOfBoundsException" := by
  refine ct_x (by decide) rfl (Nat.le_of_ble_eq_true rfl) ?_
  intro p e s mI args below meth c_0 ls A hx hb hml hts hown hlocks htab hA hP hK hD hNW hXP hS hl Q hQ
  have hown : s.vm.findClass RX5 = some mI.cls := hown
  have hl : lv_has ls 2 [(0, .ref S0), (1, .int (iI x))] := hl
  refine lv_aload_n hx hb dX5_levelOf_0 rfl (lv_at hl 0 rfl) ?_
  refine lv_iload_n hx hb dX5_levelOf_1 rfl (lv_at hl 1 rfl) ?_
  exact cl_t (isC := [0, 1, 2, 3]) (isR := [4, 5, 6, 7, 8, 9, 10, 11]) (isN := [8, 9, 10, 11, 0, 1, 2, 3, 4, 5, 6, 7]) (wr := cGa cI cZ op tn G0 G1 G2 ++ cFl cI cnt ln dr pl B0 B1 B2 B3 ++ cRp  rp P0) (As := [.int (iI x)]) (rest := []) (ci := 5) (q0 := 0) ⟨hx, hb, hml, hown, hts⟩ (c_X5_needChamber_no hl0 n L a gd w S0 L0 W0 W1 L0t G0 B0 P0 x (by first | assumption | omega) (by first | assumption | omega) (by first | assumption | omega) (by first | assumption | omega) (by first | assumption | omega)) (cwV 1 hts gX5_levelOf_X5_needChamber rfl rfl rfl (by decide +kernel) ⟨Nat.le_of_ble_eq_true rfl, Nat.le_of_ble_eq_true rfl⟩) hK hNW hXP hP hD hS hA rfl rfl rfl rfl (by decide) rfl rfl rfl rfl rfl rfl hl.1 rfl (Nat.le_of_ble_eq_true rfl) dX5_levelOf_2 ⟨Nat.le_of_ble_eq_true rfl, Nat.le_of_ble_eq_true rfl⟩ (fun ce q9 H locs hP hD hS h1 h2 h3 => li_out htab hlocks h1 h2 h3 hP hK hD hS hQ (Nat.le_of_ble_eq_true rfl) (Nat.le_of_ble_eq_true rfl))

set_option maxRecDepth 100000 in
set_option maxHeartbeats 4000000 in
theorem c_X5_headAt_no {l : Launch} {D : va_G} {cI cZ cJ : ClassId} (hl0 : l.stackTraces = false) (n : Int) (L : Int) (a : Int) (gd : Int) (w : Wt) (op : Int → Int) (tn : Int → Int) (cnt : Int) (ln : Int → Int) (dr : Int → Int) (pl : Int → Int) (rp : Rt) (S0 L0 W0 W1 G0 G1 G2 B0 B1 B2 B3 P0 L0t : Nat) (x : Int) (hn : 1 ≤ n ∧ n ≤ 6) (hL : 5 ≤ L ∧ L ≤ 40) (ha : 1 ≤ a ∧ a ≤ 50) (i_x : -2147483648 ≤ x ∧ x < 2147483648) (hv : ¬ (0 ≤ x ∧ x ≤ n)) : CT l yX5_headAt wsX5_headAt 25 [.ref S0, .int (iI x)] D (ty3 cI cZ cJ) (cLs   S0 L0 L0t ++ cLa   L0 W0 G0 B0 P0 ++ cWa cI n L a gd w W0 W1 ++ cGa cI cZ op tn G0 G1 G2 ++ cFl cI cnt ln dr pl B0 B1 B2 B3 ++ cRp  rp P0) "java/lang/IndexOutOfBoundsException" := by
  refine ct_x (by decide) rfl (Nat.le_of_ble_eq_true rfl) ?_
  intro p e s mI args below meth c_0 ls A hx hb hml hts hown hlocks htab hA hP hK hD hNW hXP hS hl Q hQ
  have hown : s.vm.findClass RX5 = some mI.cls := hown
  have hl : lv_has ls 2 [(0, .ref S0), (1, .int (iI x))] := hl
  refine lv_aload_n hx hb dX5_headAt_0 rfl (lv_at hl 0 rfl) ?_
  refine lv_iload_n hx hb dX5_headAt_1 rfl (lv_at hl 1 rfl) ?_
  exact cl_t (isC := [0, 1, 2, 3]) (isR := [4, 5, 6, 7, 8, 9, 10, 11]) (isN := [8, 9, 10, 11, 0, 1, 2, 3, 4, 5, 6, 7]) (wr := cGa cI cZ op tn G0 G1 G2 ++ cFl cI cnt ln dr pl B0 B1 B2 B3 ++ cRp  rp P0) (As := [.int (iI x)]) (rest := []) (ci := 5) (q0 := 0) ⟨hx, hb, hml, hown, hts⟩ (c_X5_needGate_no hl0 n L a gd w S0 L0 W0 W1 L0t G0 B0 P0 x (by first | assumption | omega) (by first | assumption | omega) (by first | assumption | omega) (by first | assumption | omega) (by first | assumption | omega)) (cwV 1 hts gX5_headAt_X5_needGate rfl rfl rfl (by decide +kernel) ⟨Nat.le_of_ble_eq_true rfl, Nat.le_of_ble_eq_true rfl⟩) hK hNW hXP hP hD hS hA rfl rfl rfl rfl (by decide) rfl rfl rfl rfl rfl rfl hl.1 rfl (Nat.le_of_ble_eq_true rfl) dX5_headAt_2 ⟨Nat.le_of_ble_eq_true rfl, Nat.le_of_ble_eq_true rfl⟩ (fun ce q9 H locs hP hD hS h1 h2 h3 => li_out htab hlocks h1 h2 h3 hP hK hD hS hQ (Nat.le_of_ble_eq_true rfl) (Nat.le_of_ble_eq_true rfl))

set_option maxRecDepth 100000 in
set_option maxHeartbeats 4000000 in
theorem c_X5_isOpen_no {l : Launch} {D : va_G} {cI cZ cJ : ClassId} (hl0 : l.stackTraces = false) (n : Int) (L : Int) (a : Int) (gd : Int) (w : Wt) (op : Int → Int) (tn : Int → Int) (cnt : Int) (ln : Int → Int) (dr : Int → Int) (pl : Int → Int) (rp : Rt) (S0 L0 W0 W1 G0 G1 G2 B0 B1 B2 B3 P0 L0t : Nat) (x : Int) (hn : 1 ≤ n ∧ n ≤ 6) (hL : 5 ≤ L ∧ L ≤ 40) (ha : 1 ≤ a ∧ a ≤ 50) (i_x : -2147483648 ≤ x ∧ x < 2147483648) (hv : ¬ (0 ≤ x ∧ x ≤ n)) : CT l yX5_isOpen wsX5_isOpen 25 [.ref S0, .int (iI x)] D (ty3 cI cZ cJ) (cLs   S0 L0 L0t ++ cLa   L0 W0 G0 B0 P0 ++ cWa cI n L a gd w W0 W1 ++ cGa cI cZ op tn G0 G1 G2 ++ cFl cI cnt ln dr pl B0 B1 B2 B3 ++ cRp  rp P0) "java/lang/IndexOutOfBoundsException" := by
  refine ct_x (by decide) rfl (Nat.le_of_ble_eq_true rfl) ?_
  intro p e s mI args below meth c_0 ls A hx hb hml hts hown hlocks htab hA hP hK hD hNW hXP hS hl Q hQ
  have hown : s.vm.findClass RX5 = some mI.cls := hown
  have hl : lv_has ls 2 [(0, .ref S0), (1, .int (iI x))] := hl
  refine lv_aload_n hx hb dX5_isOpen_0 rfl (lv_at hl 0 rfl) ?_
  refine lv_iload_n hx hb dX5_isOpen_1 rfl (lv_at hl 1 rfl) ?_
  exact cl_t (isC := [0, 1, 2, 3]) (isR := [4, 5, 6, 7, 8, 9, 10, 11]) (isN := [8, 9, 10, 11, 0, 1, 2, 3, 4, 5, 6, 7]) (wr := cGa cI cZ op tn G0 G1 G2 ++ cFl cI cnt ln dr pl B0 B1 B2 B3 ++ cRp  rp P0) (As := [.int (iI x)]) (rest := []) (ci := 5) (q0 := 0) ⟨hx, hb, hml, hown, hts⟩ (c_X5_needGate_no hl0 n L a gd w S0 L0 W0 W1 L0t G0 B0 P0 x (by first | assumption | omega) (by first | assumption | omega) (by first | assumption | omega) (by first | assumption | omega) (by first | assumption | omega)) (cwV 1 hts gX5_isOpen_X5_needGate rfl rfl rfl (by decide +kernel) ⟨Nat.le_of_ble_eq_true rfl, Nat.le_of_ble_eq_true rfl⟩) hK hNW hXP hP hD hS hA rfl rfl rfl rfl (by decide) rfl rfl rfl rfl rfl rfl hl.1 rfl (Nat.le_of_ble_eq_true rfl) dX5_isOpen_2 ⟨Nat.le_of_ble_eq_true rfl, Nat.le_of_ble_eq_true rfl⟩ (fun ce q9 H locs hP hD hS h1 h2 h3 => li_out htab hlocks h1 h2 h3 hP hK hD hS hQ (Nat.le_of_ble_eq_true rfl) (Nat.le_of_ble_eq_true rfl))

set_option maxRecDepth 100000 in
set_option maxHeartbeats 4000000 in
theorem c_X5_openObstacle_no {l : Launch} {D : va_G} {cI cZ cJ : ClassId} (hl0 : l.stackTraces = false) (n : Int) (L : Int) (a : Int) (gd : Int) (w : Wt) (op : Int → Int) (tn : Int → Int) (cnt : Int) (ln : Int → Int) (dr : Int → Int) (pl : Int → Int) (rp : Rt) (S0 L0 W0 W1 G0 G1 G2 B0 B1 B2 B3 P0 L0t : Nat) (x : Int) (hn : 1 ≤ n ∧ n ≤ 6) (hL : 5 ≤ L ∧ L ≤ 40) (ha : 1 ≤ a ∧ a ≤ 50) (i_x : -2147483648 ≤ x ∧ x < 2147483648) (hv : ¬ (0 ≤ x ∧ x ≤ n)) : CT l yX5_openObstacle wsX5_openObstacle 25 [.ref S0, .int (iI x)] D (ty3 cI cZ cJ) (cLs   S0 L0 L0t ++ cLa   L0 W0 G0 B0 P0 ++ cWa cI n L a gd w W0 W1 ++ cGa cI cZ op tn G0 G1 G2 ++ cFl cI cnt ln dr pl B0 B1 B2 B3 ++ cRp  rp P0) "java/lang/IndexOutOfBoundsException" := by
  refine ct_x (by decide) rfl (Nat.le_of_ble_eq_true rfl) ?_
  intro p e s mI args below meth c_0 ls A hx hb hml hts hown hlocks htab hA hP hK hD hNW hXP hS hl Q hQ
  have hown : s.vm.findClass RX5 = some mI.cls := hown
  have hl : lv_has ls 2 [(0, .ref S0), (1, .int (iI x))] := hl
  refine lv_aload_n hx hb dX5_openObstacle_0 rfl (lv_at hl 0 rfl) ?_
  refine lv_iload_n hx hb dX5_openObstacle_1 rfl (lv_at hl 1 rfl) ?_
  exact cl_t (isC := [0, 1, 2, 3]) (isR := [4, 5, 6, 7, 8, 9, 10, 11]) (isN := [8, 9, 10, 11, 0, 1, 2, 3, 4, 5, 6, 7]) (wr := cGa cI cZ op tn G0 G1 G2 ++ cFl cI cnt ln dr pl B0 B1 B2 B3 ++ cRp  rp P0) (As := [.int (iI x)]) (rest := []) (ci := 5) (q0 := 0) ⟨hx, hb, hml, hown, hts⟩ (c_X5_needGate_no hl0 n L a gd w S0 L0 W0 W1 L0t G0 B0 P0 x (by first | assumption | omega) (by first | assumption | omega) (by first | assumption | omega) (by first | assumption | omega) (by first | assumption | omega)) (cwV 1 hts gX5_openObstacle_X5_needGate rfl rfl rfl (by decide +kernel) ⟨Nat.le_of_ble_eq_true rfl, Nat.le_of_ble_eq_true rfl⟩) hK hNW hXP hP hD hS hA rfl rfl rfl rfl (by decide) rfl rfl rfl rfl rfl rfl hl.1 rfl (Nat.le_of_ble_eq_true rfl) dX5_openObstacle_2 ⟨Nat.le_of_ble_eq_true rfl, Nat.le_of_ble_eq_true rfl⟩ (fun ce q9 H locs hP hD hS h1 h2 h3 => li_out htab hlocks h1 h2 h3 hP hK hD hS hQ (Nat.le_of_ble_eq_true rfl) (Nat.le_of_ble_eq_true rfl))

set_option maxRecDepth 100000 in
set_option maxHeartbeats 4000000 in
theorem c_X5_shut_no {l : Launch} {D : va_G} {cI cZ cJ : ClassId} (hl0 : l.stackTraces = false) (n : Int) (L : Int) (a : Int) (gd : Int) (w : Wt) (op : Int → Int) (tn : Int → Int) (cnt : Int) (ln : Int → Int) (dr : Int → Int) (pl : Int → Int) (rp : Rt) (S0 L0 W0 W1 G0 G1 G2 B0 B1 B2 B3 P0 L0t : Nat) (x : Int) (hn : 1 ≤ n ∧ n ≤ 6) (hL : 5 ≤ L ∧ L ≤ 40) (ha : 1 ≤ a ∧ a ≤ 50) (i_x : -2147483648 ≤ x ∧ x < 2147483648) (hv : ¬ (0 ≤ x ∧ x ≤ n)) : CT l yX5_shut wsX5_shut 25 [.ref S0, .int (iI x)] D (ty3 cI cZ cJ) (cLs   S0 L0 L0t ++ cLa   L0 W0 G0 B0 P0 ++ cWa cI n L a gd w W0 W1 ++ cGa cI cZ op tn G0 G1 G2 ++ cFl cI cnt ln dr pl B0 B1 B2 B3 ++ cRp  rp P0) "java/lang/IndexOutOfBoundsException" := by
  refine ct_x (by decide) rfl (Nat.le_of_ble_eq_true rfl) ?_
  intro p e s mI args below meth c_0 ls A hx hb hml hts hown hlocks htab hA hP hK hD hNW hXP hS hl Q hQ
  have hown : s.vm.findClass RX5 = some mI.cls := hown
  have hl : lv_has ls 3 [(0, .ref S0), (1, .int (iI x))] := hl
  refine lv_aload_n hx hb dX5_shut_0 rfl (lv_at hl 0 rfl) ?_
  refine lv_iload_n hx hb dX5_shut_1 rfl (lv_at hl 1 rfl) ?_
  exact cl_t (isC := [0, 1, 2, 3]) (isR := [4, 5, 6, 7, 8, 9, 10, 11]) (isN := [8, 9, 10, 11, 0, 1, 2, 3, 4, 5, 6, 7]) (wr := cGa cI cZ op tn G0 G1 G2 ++ cFl cI cnt ln dr pl B0 B1 B2 B3 ++ cRp  rp P0) (As := [.int (iI x)]) (rest := []) (ci := 5) (q0 := 0) ⟨hx, hb, hml, hown, hts⟩ (c_X5_needGate_no hl0 n L a gd w S0 L0 W0 W1 L0t G0 B0 P0 x (by first | assumption | omega) (by first | assumption | omega) (by first | assumption | omega) (by first | assumption | omega) (by first | assumption | omega)) (cwV 1 hts gX5_shut_X5_needGate rfl rfl rfl (by decide +kernel) ⟨Nat.le_of_ble_eq_true rfl, Nat.le_of_ble_eq_true rfl⟩) hK hNW hXP hP hD hS hA rfl rfl rfl rfl (by decide) rfl rfl rfl rfl rfl rfl hl.1 rfl (Nat.le_of_ble_eq_true rfl) dX5_shut_2 ⟨Nat.le_of_ble_eq_true rfl, Nat.le_of_ble_eq_true rfl⟩ (fun ce q9 H locs hP hD hS h1 h2 h3 => li_out htab hlocks h1 h2 h3 hP hK hD hS hQ (Nat.le_of_ble_eq_true rfl) (Nat.le_of_ble_eq_true rfl))

set_option maxRecDepth 100000 in
set_option maxHeartbeats 4000000 in
theorem c_X5_turnsOf_no {l : Launch} {D : va_G} {cI cZ cJ : ClassId} (hl0 : l.stackTraces = false) (n : Int) (L : Int) (a : Int) (gd : Int) (w : Wt) (op : Int → Int) (tn : Int → Int) (cnt : Int) (ln : Int → Int) (dr : Int → Int) (pl : Int → Int) (rp : Rt) (S0 L0 W0 W1 G0 G1 G2 B0 B1 B2 B3 P0 L0t : Nat) (x : Int) (hn : 1 ≤ n ∧ n ≤ 6) (hL : 5 ≤ L ∧ L ≤ 40) (ha : 1 ≤ a ∧ a ≤ 50) (i_x : -2147483648 ≤ x ∧ x < 2147483648) (hv : ¬ (0 ≤ x ∧ x ≤ n)) : CT l yX5_turnsOf wsX5_turnsOf 25 [.ref S0, .int (iI x)] D (ty3 cI cZ cJ) (cLs   S0 L0 L0t ++ cLa   L0 W0 G0 B0 P0 ++ cWa cI n L a gd w W0 W1 ++ cGa cI cZ op tn G0 G1 G2 ++ cFl cI cnt ln dr pl B0 B1 B2 B3 ++ cRp  rp P0) "java/lang/IndexOutOfBoundsException" := by
  refine ct_x (by decide) rfl (Nat.le_of_ble_eq_true rfl) ?_
  intro p e s mI args below meth c_0 ls A hx hb hml hts hown hlocks htab hA hP hK hD hNW hXP hS hl Q hQ
  have hown : s.vm.findClass RX5 = some mI.cls := hown
  have hl : lv_has ls 2 [(0, .ref S0), (1, .int (iI x))] := hl
  refine lv_aload_n hx hb dX5_turnsOf_0 rfl (lv_at hl 0 rfl) ?_
  refine lv_iload_n hx hb dX5_turnsOf_1 rfl (lv_at hl 1 rfl) ?_
  exact cl_t (isC := [0, 1, 2, 3]) (isR := [4, 5, 6, 7, 8, 9, 10, 11]) (isN := [8, 9, 10, 11, 0, 1, 2, 3, 4, 5, 6, 7]) (wr := cGa cI cZ op tn G0 G1 G2 ++ cFl cI cnt ln dr pl B0 B1 B2 B3 ++ cRp  rp P0) (As := [.int (iI x)]) (rest := []) (ci := 5) (q0 := 0) ⟨hx, hb, hml, hown, hts⟩ (c_X5_needGate_no hl0 n L a gd w S0 L0 W0 W1 L0t G0 B0 P0 x (by first | assumption | omega) (by first | assumption | omega) (by first | assumption | omega) (by first | assumption | omega) (by first | assumption | omega)) (cwV 1 hts gX5_turnsOf_X5_needGate rfl rfl rfl (by decide +kernel) ⟨Nat.le_of_ble_eq_true rfl, Nat.le_of_ble_eq_true rfl⟩) hK hNW hXP hP hD hS hA rfl rfl rfl rfl (by decide) rfl rfl rfl rfl rfl rfl hl.1 rfl (Nat.le_of_ble_eq_true rfl) dX5_turnsOf_2 ⟨Nat.le_of_ble_eq_true rfl, Nat.le_of_ble_eq_true rfl⟩ (fun ce q9 H locs hP hD hS h1 h2 h3 => li_out htab hlocks h1 h2 h3 hP hK hD hS hQ (Nat.le_of_ble_eq_true rfl) (Nat.le_of_ble_eq_true rfl))

set_option maxRecDepth 100000 in
set_option maxHeartbeats 4000000 in
theorem c_X5_placeOf_no {l : Launch} {D : va_G} {cI cZ cJ : ClassId} (hl0 : l.stackTraces = false) (n : Int) (L : Int) (a : Int) (gd : Int) (w : Wt) (op : Int → Int) (tn : Int → Int) (cnt : Int) (ln : Int → Int) (dr : Int → Int) (pl : Int → Int) (rp : Rt) (S0 L0 W0 W1 G0 G1 G2 B0 B1 B2 B3 P0 L0t : Nat) (x : Int) (hcnt : 0 ≤ cnt ∧ cnt ≤ 10) (i_x : -2147483648 ≤ x ∧ x < 2147483648) (hv : ¬ (0 ≤ x ∧ x ≤ cnt - 1)) : CT l yX5_placeOf wsX5_placeOf 25 [.ref S0, .int (iI x)] D (ty3 cI cZ cJ) (cLs   S0 L0 L0t ++ cLa   L0 W0 G0 B0 P0 ++ cWa cI n L a gd w W0 W1 ++ cGa cI cZ op tn G0 G1 G2 ++ cFl cI cnt ln dr pl B0 B1 B2 B3 ++ cRp  rp P0) "java/lang/IndexOutOfBoundsException" := by
  refine ct_x (by decide) rfl (Nat.le_of_ble_eq_true rfl) ?_
  intro p e s mI args below meth c_0 ls A hx hb hml hts hown hlocks htab hA hP hK hD hNW hXP hS hl Q hQ
  have hown : s.vm.findClass RX5 = some mI.cls := hown
  have hl : lv_has ls 2 [(0, .ref S0), (1, .int (iI x))] := hl
  refine lv_aload_n hx hb dX5_placeOf_0 rfl (lv_at hl 0 rfl) ?_
  refine lv_iload_n hx hb dX5_placeOf_1 rfl (lv_at hl 1 rfl) ?_
  exact cl_t (isC := [0, 1, 7, 8, 9, 10]) (isR := [2, 3, 4, 5, 6, 11]) (isN := [6, 7, 0, 1, 2, 3, 4, 8, 9, 10, 11, 5]) (wr := cWa cI n L a gd w W0 W1 ++ cGa cI cZ op tn G0 G1 G2 ++ cRp  rp P0) (As := [.int (iI x)]) (rest := []) (ci := 5) (q0 := 0) ⟨hx, hb, hml, hown, hts⟩ (c_X5_needBoat_no hl0 cnt ln dr pl S0 L0 B0 B1 B2 B3 L0t W0 G0 P0 x (by first | assumption | omega) (by first | assumption | omega) (by first | assumption | omega)) (cwV 1 hts gX5_placeOf_X5_needBoat rfl rfl rfl (by decide +kernel) ⟨Nat.le_of_ble_eq_true rfl, Nat.le_of_ble_eq_true rfl⟩) hK hNW hXP hP hD hS hA rfl rfl rfl rfl (by decide) rfl rfl rfl rfl rfl rfl hl.1 rfl (Nat.le_of_ble_eq_true rfl) dX5_placeOf_2 ⟨Nat.le_of_ble_eq_true rfl, Nat.le_of_ble_eq_true rfl⟩ (fun ce q9 H locs hP hD hS h1 h2 h3 => li_out htab hlocks h1 h2 h3 hP hK hD hS hQ (Nat.le_of_ble_eq_true rfl) (Nat.le_of_ble_eq_true rfl))

set_option maxRecDepth 100000 in
set_option maxHeartbeats 4000000 in
theorem c_X5_boatsAt_no {l : Launch} {D : va_G} {cI cZ cJ : ClassId} (hl0 : l.stackTraces = false) (n : Int) (L : Int) (a : Int) (gd : Int) (w : Wt) (op : Int → Int) (tn : Int → Int) (cnt : Int) (ln : Int → Int) (dr : Int → Int) (pl : Int → Int) (rp : Rt) (S0 L0 W0 W1 G0 G1 G2 B0 B1 B2 B3 P0 L0t : Nat) (x : Int) (hn : 1 ≤ n ∧ n ≤ 6) (hL : 5 ≤ L ∧ L ≤ 40) (ha : 1 ≤ a ∧ a ≤ 50) (i_x : -2147483648 ≤ x ∧ x < 2147483648) (hv : ¬ (0 ≤ x ∧ x ≤ n + 1)) : CT l yX5_boatsAt wsX5_boatsAt 25 [.ref S0, .int (iI x)] D (ty3 cI cZ cJ) (cLs   S0 L0 L0t ++ cLa   L0 W0 G0 B0 P0 ++ cWa cI n L a gd w W0 W1 ++ cGa cI cZ op tn G0 G1 G2 ++ cFl cI cnt ln dr pl B0 B1 B2 B3 ++ cRp  rp P0) "java/lang/IndexOutOfBoundsException" := by
  refine ct_x (by decide) rfl (Nat.le_of_ble_eq_true rfl) ?_
  intro p e s mI args below meth c_0 ls A hx hb hml hts hown hlocks htab hA hP hK hD hNW hXP hS hl Q hQ
  have hown : s.vm.findClass RX5 = some mI.cls := hown
  have hl : lv_has ls 2 [(0, .ref S0), (1, .int (iI x))] := hl
  have hin_X5 : ∀ w ∈ wsX50, w ∈ wsX5_boatsAt := by decide +kernel
  have hcl_1 := hts (.classLink RX5 140 "java/lang/IndexOutOfBoundsException") (by decide +kernel)
  have hf_14 := hts (.fieldLink RX5 14 "LockStaircase" "ladder" "LLockStaircase$Ladder;") (by decide +kernel)
  have hci_1 := hts (.initialized "java/lang/IndexOutOfBoundsException") (by decide +kernel)
  refine lv_iload_n hx hb dX5_boatsAt_0 rfl (lv_at hl 1 rfl) ?_
  refine li_if_lt (tgt := 15) hx hb dX5_boatsAt_1 (by decide) (ib_i (by omega) (by omega)) (fun c_1 => ?_) (fun c_1 => ?_)
  · exact li_thr (text := "no such place") hx hb hl0 140 hown (by decide +kernel) hcl_1 hci_1 hXP (by decide) (fun w hw => hts w ((show ∀ w ∈ (vx_atS RX5 144 "java/lang/IndexOutOfBoundsException" thN).filter goodWord, w ∈ wsX5_boatsAt by decide +kernel) w hw)) th_a1 th_b1 hS (hl.1.trans hml.symm) dX5_boatsAt_15 dX5_boatsAt_18 dX5_boatsAt_19 dX5_boatsAt_21 dX5_boatsAt_24 htab (Nat.le_of_ble_eq_true rfl) (Nat.le_of_ble_eq_true rfl) (Nat.le_of_ble_eq_true rfl) (Nat.le_of_ble_eq_true rfl) hlocks hP hK hD hQ rfl rfl
  · refine lv_iload_n hx hb dX5_boatsAt_4 rfl (lv_at hl 1 rfl) ?_
    refine lv_aload_n hx hb dX5_boatsAt_5 rfl (lv_at hl 0 rfl) ?_
    refine li_get (ci := 5) (v := .ref L0) (C := RX5) (T := TX5) (N := 2) (q0 := 0) (k := 0) hx hb hts hin_X5 hown hK hP rfl rfl (by decide) hf_14 rfl rfl dX5_boatsAt_6 ?_
    refine cl_i0 (isC := [1, 2, 3]) (isR := [0, 4, 5, 6, 7, 8, 9, 10, 11]) (isN := [0, 9, 10, 11, 1, 2, 3, 4, 5, 6, 7, 8]) (wr := cLs   S0 L0 L0t ++ cGa cI cZ op tn G0 G1 G2 ++ cFl cI cnt ln dr pl B0 B1 B2 B3 ++ cRp  rp P0) (wn := cLs   S0 L0 L0t ++ cLa   L0 W0 G0 B0 P0 ++ cWa cI n L a gd w W0 W1 ++ cGa cI cZ op tn G0 G1 G2 ++ cFl cI cnt ln dr pl B0 B1 B2 B3 ++ cRp  rp P0) (As := []) (rest := [.int (iI x)]) (r := n + 1) (ci := 2) (q0 := 0) ⟨hx, hb, hml, hown, hts⟩ (c_X2_poundPlace n L a gd w L0 W0 W1 G0 B0 P0 (by first | assumption | omega) (by first | assumption | omega) (by first | assumption | omega)) (cwV 0 hts gX5_boatsAt_X2_poundPlace rfl rfl rfl (by decide +kernel) ⟨Nat.le_of_ble_eq_true rfl, Nat.le_of_ble_eq_true rfl⟩) hK hNW hP hD hS hA rfl rfl rfl rfl (by decide) rfl rfl rfl rfl rfl rfl hl.1 rfl (Nat.le_of_ble_eq_true rfl) dX5_boatsAt_9 ⟨Nat.zero_le _, Nat.zero_le _⟩ (fun H locs hP hD hS => ?_)
    refine li_icmp_le (tgt := 25) hx hb dX5_boatsAt_12 (by decide) (ib_i (by omega) (by omega)) (ib_i (by omega) (by omega)) (fun c_12 => ?_) (fun c_12 => ?_)
    · exfalso; omega
    · exact li_thr (text := "no such place") hx hb hl0 140 hown (by decide +kernel) hcl_1 hci_1 hXP (by decide) (fun w hw => hts w ((show ∀ w ∈ (vx_atS RX5 144 "java/lang/IndexOutOfBoundsException" thN).filter goodWord, w ∈ wsX5_boatsAt by decide +kernel) w hw)) th_a1 th_b1 hS (hl.1.trans hml.symm) dX5_boatsAt_15 dX5_boatsAt_18 dX5_boatsAt_19 dX5_boatsAt_21 dX5_boatsAt_24 htab (Nat.le_of_ble_eq_true rfl) (Nat.le_of_ble_eq_true rfl) (Nat.le_of_ble_eq_true rfl) (Nat.le_of_ble_eq_true rfl) hlocks hP hK hD hQ rfl rfl

set_option maxRecDepth 100000 in
set_option maxHeartbeats 4000000 in
theorem c_X5_freeLength_no {l : Launch} {D : va_G} {cI cZ cJ : ClassId} (hl0 : l.stackTraces = false) (n : Int) (L : Int) (a : Int) (gd : Int) (w : Wt) (op : Int → Int) (tn : Int → Int) (cnt : Int) (ln : Int → Int) (dr : Int → Int) (pl : Int → Int) (rp : Rt) (S0 L0 W0 W1 G0 G1 G2 B0 B1 B2 B3 P0 L0t : Nat) (x : Int) (hn : 1 ≤ n ∧ n ≤ 6) (hL : 5 ≤ L ∧ L ≤ 40) (ha : 1 ≤ a ∧ a ≤ 50) (i_x : -2147483648 ≤ x ∧ x < 2147483648) (hv : ¬ (0 ≤ x ∧ x ≤ n - 1)) : CT l yX5_freeLength wsX5_freeLength 25 [.ref S0, .int (iI x)] D (ty3 cI cZ cJ) (cLs   S0 L0 L0t ++ cLa   L0 W0 G0 B0 P0 ++ cWa cI n L a gd w W0 W1 ++ cGa cI cZ op tn G0 G1 G2 ++ cFl cI cnt ln dr pl B0 B1 B2 B3 ++ cRp  rp P0) "java/lang/IndexOutOfBoundsException" := by
  refine ct_x (by decide) rfl (Nat.le_of_ble_eq_true rfl) ?_
  intro p e s mI args below meth c_0 ls A hx hb hml hts hown hlocks htab hA hP hK hD hNW hXP hS hl Q hQ
  have hown : s.vm.findClass RX5 = some mI.cls := hown
  have hl : lv_has ls 2 [(0, .ref S0), (1, .int (iI x))] := hl
  refine lv_aload_n hx hb dX5_freeLength_0 rfl (lv_at hl 0 rfl) ?_
  refine lv_iload_n hx hb dX5_freeLength_1 rfl (lv_at hl 1 rfl) ?_
  exact cl_t (isC := [0, 1, 2, 3]) (isR := [4, 5, 6, 7, 8, 9, 10, 11]) (isN := [8, 9, 10, 11, 0, 1, 2, 3, 4, 5, 6, 7]) (wr := cGa cI cZ op tn G0 G1 G2 ++ cFl cI cnt ln dr pl B0 B1 B2 B3 ++ cRp  rp P0) (As := [.int (iI x)]) (rest := []) (ci := 5) (q0 := 0) ⟨hx, hb, hml, hown, hts⟩ (c_X5_needChamber_no hl0 n L a gd w S0 L0 W0 W1 L0t G0 B0 P0 x (by first | assumption | omega) (by first | assumption | omega) (by first | assumption | omega) (by first | assumption | omega) (by first | assumption | omega)) (cwV 1 hts gX5_freeLength_X5_needChamber rfl rfl rfl (by decide +kernel) ⟨Nat.le_of_ble_eq_true rfl, Nat.le_of_ble_eq_true rfl⟩) hK hNW hXP hP hD hS hA rfl rfl rfl rfl (by decide) rfl rfl rfl rfl rfl rfl hl.1 rfl (Nat.le_of_ble_eq_true rfl) dX5_freeLength_2 ⟨Nat.le_of_ble_eq_true rfl, Nat.le_of_ble_eq_true rfl⟩ (fun ce q9 H locs hP hD hS h1 h2 h3 => li_out htab hlocks h1 h2 h3 hP hK hD hS hQ (Nat.le_of_ble_eq_true rfl) (Nat.le_of_ble_eq_true rfl))

set_option maxRecDepth 100000 in
set_option maxHeartbeats 4000000 in
theorem c_X5_open_no1 {l : Launch} {D : va_G} {cI cZ cJ : ClassId} (hl0 : l.stackTraces = false) (n : Int) (L : Int) (a : Int) (gd : Int) (w : Wt) (op : Int → Int) (tn : Int → Int) (cnt : Int) (ln : Int → Int) (dr : Int → Int) (pl : Int → Int) (rp : Rt) (S0 L0 W0 W1 G0 G1 G2 B0 B1 B2 B3 P0 L0t : Nat) (x : Int) (hn : 1 ≤ n ∧ n ≤ 6) (hL : 5 ≤ L ∧ L ≤ 40) (ha : 1 ≤ a ∧ a ≤ 50) (i_x : -2147483648 ≤ x ∧ x < 2147483648) (hv : ¬ (0 ≤ x ∧ x ≤ n)) : CT l yX5_open wsX5_open 25 [.ref S0, .int (iI x)] D (ty3 cI cZ cJ) (cLs   S0 L0 L0t ++ cLa   L0 W0 G0 B0 P0 ++ cWa cI n L a gd w W0 W1 ++ cGa cI cZ op tn G0 G1 G2 ++ cFl cI cnt ln dr pl B0 B1 B2 B3 ++ cRp  rp P0) "java/lang/IndexOutOfBoundsException" := by
  refine ct_x (by decide) rfl (Nat.le_of_ble_eq_true rfl) ?_
  intro p e s mI args below meth c_0 ls A hx hb hml hts hown hlocks htab hA hP hK hD hNW hXP hS hl Q hQ
  have hown : s.vm.findClass RX5 = some mI.cls := hown
  have hl : lv_has ls 2 [(0, .ref S0), (1, .int (iI x))] := hl
  refine lv_aload_n hx hb dX5_open_0 rfl (lv_at hl 0 rfl) ?_
  refine lv_iload_n hx hb dX5_open_1 rfl (lv_at hl 1 rfl) ?_
  exact cl_t (isC := [0, 1, 2, 3]) (isR := [4, 5, 6, 7, 8, 9, 10, 11]) (isN := [8, 9, 10, 11, 0, 1, 2, 3, 4, 5, 6, 7]) (wr := cGa cI cZ op tn G0 G1 G2 ++ cFl cI cnt ln dr pl B0 B1 B2 B3 ++ cRp  rp P0) (As := [.int (iI x)]) (rest := []) (ci := 5) (q0 := 0) ⟨hx, hb, hml, hown, hts⟩ (c_X5_needGate_no hl0 n L a gd w S0 L0 W0 W1 L0t G0 B0 P0 x (by first | assumption | omega) (by first | assumption | omega) (by first | assumption | omega) (by first | assumption | omega) (by first | assumption | omega)) (cwV 1 hts gX5_open_X5_needGate rfl rfl rfl (by decide +kernel) ⟨Nat.le_of_ble_eq_true rfl, Nat.le_of_ble_eq_true rfl⟩) hK hNW hXP hP hD hS hA rfl rfl rfl rfl (by decide) rfl rfl rfl rfl rfl rfl hl.1 rfl (Nat.le_of_ble_eq_true rfl) dX5_open_2 ⟨Nat.le_of_ble_eq_true rfl, Nat.le_of_ble_eq_true rfl⟩ (fun ce q9 H locs hP hD hS h1 h2 h3 => li_out htab hlocks h1 h2 h3 hP hK hD hS hQ (Nat.le_of_ble_eq_true rfl) (Nat.le_of_ble_eq_true rfl))

set_option maxRecDepth 100000 in
set_option maxHeartbeats 4000000 in
theorem c_X5_wind_no1 {l : Launch} {D : va_G} {cI cZ cJ : ClassId} (hl0 : l.stackTraces = false) (n : Int) (L : Int) (a : Int) (gd : Int) (w : Wt) (op : Int → Int) (tn : Int → Int) (cnt : Int) (ln : Int → Int) (dr : Int → Int) (pl : Int → Int) (rp : Rt) (S0 L0 W0 W1 G0 G1 G2 B0 B1 B2 B3 P0 L0t : Nat) (x : Int) (y : Int) (hn : 1 ≤ n ∧ n ≤ 6) (hL : 5 ≤ L ∧ L ≤ 40) (ha : 1 ≤ a ∧ a ≤ 50) (i_x : -2147483648 ≤ x ∧ x < 2147483648) (hv : ¬ (0 ≤ x ∧ x ≤ n)) : CT l yX5_wind wsX5_wind 25 [.ref S0, .int (iI x), .int (iI y)] D (ty3 cI cZ cJ) (cLs   S0 L0 L0t ++ cLa   L0 W0 G0 B0 P0 ++ cWa cI n L a gd w W0 W1 ++ cGa cI cZ op tn G0 G1 G2 ++ cFl cI cnt ln dr pl B0 B1 B2 B3 ++ cRp  rp P0) "java/lang/IndexOutOfBoundsException" := by
  refine ct_x (by decide) rfl (Nat.le_of_ble_eq_true rfl) ?_
  intro p e s mI args below meth c_0 ls A hx hb hml hts hown hlocks htab hA hP hK hD hNW hXP hS hl Q hQ
  have hown : s.vm.findClass RX5 = some mI.cls := hown
  have hl : lv_has ls 4 [(0, .ref S0), (1, .int (iI x)), (2, .int (iI y))] := hl
  refine lv_aload_n hx hb dX5_wind_0 rfl (lv_at hl 0 rfl) ?_
  refine lv_iload_n hx hb dX5_wind_1 rfl (lv_at hl 1 rfl) ?_
  exact cl_t (isC := [0, 1, 2, 3]) (isR := [4, 5, 6, 7, 8, 9, 10, 11]) (isN := [8, 9, 10, 11, 0, 1, 2, 3, 4, 5, 6, 7]) (wr := cGa cI cZ op tn G0 G1 G2 ++ cFl cI cnt ln dr pl B0 B1 B2 B3 ++ cRp  rp P0) (As := [.int (iI x)]) (rest := []) (ci := 5) (q0 := 0) ⟨hx, hb, hml, hown, hts⟩ (c_X5_needGate_no hl0 n L a gd w S0 L0 W0 W1 L0t G0 B0 P0 x (by first | assumption | omega) (by first | assumption | omega) (by first | assumption | omega) (by first | assumption | omega) (by first | assumption | omega)) (cwV 1 hts gX5_wind_X5_needGate rfl rfl rfl (by decide +kernel) ⟨Nat.le_of_ble_eq_true rfl, Nat.le_of_ble_eq_true rfl⟩) hK hNW hXP hP hD hS hA rfl rfl rfl rfl (by decide) rfl rfl rfl rfl rfl rfl hl.1 rfl (Nat.le_of_ble_eq_true rfl) dX5_wind_2 ⟨Nat.le_of_ble_eq_true rfl, Nat.le_of_ble_eq_true rfl⟩ (fun ce q9 H locs hP hD hS h1 h2 h3 => li_out htab hlocks h1 h2 h3 hP hK hD hS hQ (Nat.le_of_ble_eq_true rfl) (Nat.le_of_ble_eq_true rfl))

set_option maxRecDepth 100000 in
set_option maxHeartbeats 4000000 in
theorem c_X5_moveObstacle_no {l : Launch} {D : va_G} {cI cZ cJ : ClassId} (hl0 : l.stackTraces = false) (n : Int) (L : Int) (a : Int) (gd : Int) (w : Wt) (op : Int → Int) (tn : Int → Int) (cnt : Int) (ln : Int → Int) (dr : Int → Int) (pl : Int → Int) (rp : Rt) (S0 L0 W0 W1 G0 G1 G2 B0 B1 B2 B3 P0 L0t : Nat) (b : Int) (up : Int) (hcnt : 0 ≤ cnt ∧ cnt ≤ 10) (i_b : -2147483648 ≤ b ∧ b < 2147483648) (hv : ¬ (0 ≤ b ∧ b ≤ cnt - 1)) : CT l yX5_moveObstacle wsX5_moveObstacle 25 [.ref S0, .int (iI b), .int (iI up)] D (ty3 cI cZ cJ) (cLs   S0 L0 L0t ++ cLa   L0 W0 G0 B0 P0 ++ cWa cI n L a gd w W0 W1 ++ cGa cI cZ op tn G0 G1 G2 ++ cFl cI cnt ln dr pl B0 B1 B2 B3 ++ cRp  rp P0) "java/lang/IndexOutOfBoundsException" := by
  refine ct_x (by decide) rfl (Nat.le_of_ble_eq_true rfl) ?_
  intro p e s mI args below meth c_0 ls A hx hb hml hts hown hlocks htab hA hP hK hD hNW hXP hS hl Q hQ
  have hown : s.vm.findClass RX5 = some mI.cls := hown
  have hl : lv_has ls 3 [(0, .ref S0), (1, .int (iI b)), (2, .int (iI up))] := hl
  refine lv_aload_n hx hb dX5_moveObstacle_0 rfl (lv_at hl 0 rfl) ?_
  refine lv_iload_n hx hb dX5_moveObstacle_1 rfl (lv_at hl 1 rfl) ?_
  exact cl_t (isC := [0, 1, 7, 8, 9, 10]) (isR := [2, 3, 4, 5, 6, 11]) (isN := [6, 7, 0, 1, 2, 3, 4, 8, 9, 10, 11, 5]) (wr := cWa cI n L a gd w W0 W1 ++ cGa cI cZ op tn G0 G1 G2 ++ cRp  rp P0) (As := [.int (iI b)]) (rest := []) (ci := 5) (q0 := 0) ⟨hx, hb, hml, hown, hts⟩ (c_X5_needBoat_no hl0 cnt ln dr pl S0 L0 B0 B1 B2 B3 L0t W0 G0 P0 b (by first | assumption | omega) (by first | assumption | omega) (by first | assumption | omega)) (cwV 1 hts gX5_moveObstacle_X5_needBoat rfl rfl rfl (by decide +kernel) ⟨Nat.le_of_ble_eq_true rfl, Nat.le_of_ble_eq_true rfl⟩) hK hNW hXP hP hD hS hA rfl rfl rfl rfl (by decide) rfl rfl rfl rfl rfl rfl hl.1 rfl (Nat.le_of_ble_eq_true rfl) dX5_moveObstacle_2 ⟨Nat.le_of_ble_eq_true rfl, Nat.le_of_ble_eq_true rfl⟩ (fun ce q9 H locs hP hD hS h1 h2 h3 => li_out htab hlocks h1 h2 h3 hP hK hD hS hQ (Nat.le_of_ble_eq_true rfl) (Nat.le_of_ble_eq_true rfl))

set_option maxRecDepth 100000 in
set_option maxHeartbeats 4000000 in
theorem c_X5_take_no {l : Launch} {D : va_G} {cI cZ cJ : ClassId} (hl0 : l.stackTraces = false) (n : Int) (L : Int) (a : Int) (gd : Int) (w : Wt) (op : Int → Int) (tn : Int → Int) (cnt : Int) (ln : Int → Int) (dr : Int → Int) (pl : Int → Int) (rp : Rt) (S0 L0 W0 W1 G0 G1 G2 B0 B1 B2 B3 P0 L0t : Nat) (b : Int) (up : Int) (hcnt : 0 ≤ cnt ∧ cnt ≤ 10) (i_b : -2147483648 ≤ b ∧ b < 2147483648) (hv : ¬ (0 ≤ b ∧ b ≤ cnt - 1)) : CT l yX5_take wsX5_take 25 [.ref S0, .int (iI b), .int (iI up)] D (ty3 cI cZ cJ) (cLs   S0 L0 L0t ++ cLa   L0 W0 G0 B0 P0 ++ cWa cI n L a gd w W0 W1 ++ cGa cI cZ op tn G0 G1 G2 ++ cFl cI cnt ln dr pl B0 B1 B2 B3 ++ cRp  rp P0) "java/lang/IndexOutOfBoundsException" := by
  refine ct_x (by decide) rfl (Nat.le_of_ble_eq_true rfl) ?_
  intro p e s mI args below meth c_0 ls A hx hb hml hts hown hlocks htab hA hP hK hD hNW hXP hS hl Q hQ
  have hown : s.vm.findClass RX5 = some mI.cls := hown
  have hl : lv_has ls 3 [(0, .ref S0), (1, .int (iI b)), (2, .int (iI up))] := hl
  refine lv_aload_n hx hb dX5_take_0 rfl (lv_at hl 0 rfl) ?_
  refine lv_iload_n hx hb dX5_take_1 rfl (lv_at hl 1 rfl) ?_
  exact cl_t (isC := [0, 1, 7, 8, 9, 10]) (isR := [2, 3, 4, 5, 6, 11]) (isN := [6, 7, 0, 1, 2, 3, 4, 8, 9, 10, 11, 5]) (wr := cWa cI n L a gd w W0 W1 ++ cGa cI cZ op tn G0 G1 G2 ++ cRp  rp P0) (As := [.int (iI b)]) (rest := []) (ci := 5) (q0 := 0) ⟨hx, hb, hml, hown, hts⟩ (c_X5_needBoat_no hl0 cnt ln dr pl S0 L0 B0 B1 B2 B3 L0t W0 G0 P0 b (by first | assumption | omega) (by first | assumption | omega) (by first | assumption | omega)) (cwV 1 hts gX5_take_X5_needBoat rfl rfl rfl (by decide +kernel) ⟨Nat.le_of_ble_eq_true rfl, Nat.le_of_ble_eq_true rfl⟩) hK hNW hXP hP hD hS hA rfl rfl rfl rfl (by decide) rfl rfl rfl rfl rfl rfl hl.1 rfl (Nat.le_of_ble_eq_true rfl) dX5_take_2 ⟨Nat.le_of_ble_eq_true rfl, Nat.le_of_ble_eq_true rfl⟩ (fun ce q9 H locs hP hD hS h1 h2 h3 => li_out htab hlocks h1 h2 h3 hP hK hD hS hQ (Nat.le_of_ble_eq_true rfl) (Nat.le_of_ble_eq_true rfl))

set_option maxRecDepth 100000 in
set_option maxHeartbeats 4000000 in
theorem c_X5_move_no1 {l : Launch} {D : va_G} {cI cZ cJ : ClassId} (hl0 : l.stackTraces = false) (n : Int) (L : Int) (a : Int) (gd : Int) (w : Wt) (op : Int → Int) (tn : Int → Int) (cnt : Int) (ln : Int → Int) (dr : Int → Int) (pl : Int → Int) (rp : Rt) (S0 L0 W0 W1 G0 G1 G2 B0 B1 B2 B3 P0 L0t : Nat) (b : Int) (up : Int) (hcnt : 0 ≤ cnt ∧ cnt ≤ 10) (i_b : -2147483648 ≤ b ∧ b < 2147483648) (hv : ¬ (0 ≤ b ∧ b ≤ cnt - 1)) : CT l yX5_move wsX5_move 25 [.ref S0, .int (iI b), .int (iI up)] D (ty3 cI cZ cJ) (cLs   S0 L0 L0t ++ cLa   L0 W0 G0 B0 P0 ++ cWa cI n L a gd w W0 W1 ++ cGa cI cZ op tn G0 G1 G2 ++ cFl cI cnt ln dr pl B0 B1 B2 B3 ++ cRp  rp P0) "java/lang/IndexOutOfBoundsException" := by
  refine ct_x (by decide) rfl (Nat.le_of_ble_eq_true rfl) ?_
  intro p e s mI args below meth c_0 ls A hx hb hml hts hown hlocks htab hA hP hK hD hNW hXP hS hl Q hQ
  have hown : s.vm.findClass RX5 = some mI.cls := hown
  have hl : lv_has ls 3 [(0, .ref S0), (1, .int (iI b)), (2, .int (iI up))] := hl
  refine lv_aload_n hx hb dX5_move_0 rfl (lv_at hl 0 rfl) ?_
  refine lv_iload_n hx hb dX5_move_1 rfl (lv_at hl 1 rfl) ?_
  exact cl_t (isC := [0, 1, 7, 8, 9, 10]) (isR := [2, 3, 4, 5, 6, 11]) (isN := [6, 7, 0, 1, 2, 3, 4, 8, 9, 10, 11, 5]) (wr := cWa cI n L a gd w W0 W1 ++ cGa cI cZ op tn G0 G1 G2 ++ cRp  rp P0) (As := [.int (iI b)]) (rest := []) (ci := 5) (q0 := 0) ⟨hx, hb, hml, hown, hts⟩ (c_X5_needBoat_no hl0 cnt ln dr pl S0 L0 B0 B1 B2 B3 L0t W0 G0 P0 b (by first | assumption | omega) (by first | assumption | omega) (by first | assumption | omega)) (cwV 1 hts gX5_move_X5_needBoat rfl rfl rfl (by decide +kernel) ⟨Nat.le_of_ble_eq_true rfl, Nat.le_of_ble_eq_true rfl⟩) hK hNW hXP hP hD hS hA rfl rfl rfl rfl (by decide) rfl rfl rfl rfl rfl rfl hl.1 rfl (Nat.le_of_ble_eq_true rfl) dX5_move_2 ⟨Nat.le_of_ble_eq_true rfl, Nat.le_of_ble_eq_true rfl⟩ (fun ce q9 H locs hP hD hS h1 h2 h3 => li_out htab hlocks h1 h2 h3 hP hK hD hS hQ (Nat.le_of_ble_eq_true rfl) (Nat.le_of_ble_eq_true rfl))

set_option maxRecDepth 100000 in
set_option maxHeartbeats 4000000 in
theorem c_X5_minutesFor_no {l : Launch} {D : va_G} {cI cZ cJ : ClassId} (hl0 : l.stackTraces = false) (n : Int) (L : Int) (a : Int) (gd : Int) (w : Wt) (op : Int → Int) (tn : Int → Int) (cnt : Int) (ln : Int → Int) (dr : Int → Int) (pl : Int → Int) (rp : Rt) (gdt : Int) (wt : Wt) (opt : Int → Int) (tnt : Int → Int) (cntt : Int) (lnt : Int → Int) (drt : Int → Int) (plt : Int → Int) (rpt : Rt) (S0 L0 W0 W1 G0 G1 G2 B0 B1 B2 B3 P0 L0t W0t W1t G0t G1t G2t B0t B1t B2t B3t P0t : Nat) (b : Int) (up : Int) (hcnt : 0 ≤ cnt ∧ cnt ≤ 10) (i_b : -2147483648 ≤ b ∧ b < 2147483648) (hv : ¬ (0 ≤ b ∧ b ≤ cnt - 1)) : CT l yX5_minutesFor wsX5_minutesFor 25 [.ref S0, .int (iI b), .int (iI up)] D (ty3 cI cZ cJ) (cLs   S0 L0 L0t ++ cLa   L0 W0 G0 B0 P0 ++ cWa cI n L a gd w W0 W1 ++ cGa cI cZ op tn G0 G1 G2 ++ cFl cI cnt ln dr pl B0 B1 B2 B3 ++ cRp  rp P0 ++ cLa   L0t W0t G0t B0t P0t ++ cWa cI n L a gdt wt W0t W1t ++ cGa cI cZ opt tnt G0t G1t G2t ++ cFl cI cntt lnt drt plt B0t B1t B2t B3t ++ cRp  rpt P0t) "java/lang/IndexOutOfBoundsException" := by
  refine ct_x (by decide) rfl (Nat.le_of_ble_eq_true rfl) ?_
  intro p e s mI args below meth c_0 ls A hx hb hml hts hown hlocks htab hA hP hK hD hNW hXP hS hl Q hQ
  have hown : s.vm.findClass RX5 = some mI.cls := hown
  have hl : lv_has ls 3 [(0, .ref S0), (1, .int (iI b)), (2, .int (iI up))] := hl
  refine lv_aload_n hx hb dX5_minutesFor_0 rfl (lv_at hl 0 rfl) ?_
  refine lv_iload_n hx hb dX5_minutesFor_1 rfl (lv_at hl 1 rfl) ?_
  exact cl_t (isC := [0, 1, 7, 8, 9, 10]) (isR := [2, 3, 4, 5, 6, 11, 12, 13, 14, 15, 16, 17, 18, 19, 20, 21, 22]) (isN := [17, 18, 0, 1, 2, 3, 4, 19, 20, 21, 22, 5, 6, 7, 8, 9, 10, 11, 12, 13, 14, 15, 16]) (wr := cWa cI n L a gd w W0 W1 ++ cGa cI cZ op tn G0 G1 G2 ++ cRp  rp P0 ++ cLa   L0t W0t G0t B0t P0t ++ cWa cI n L a gdt wt W0t W1t ++ cGa cI cZ opt tnt G0t G1t G2t ++ cFl cI cntt lnt drt plt B0t B1t B2t B3t ++ cRp  rpt P0t) (As := [.int (iI b)]) (rest := []) (ci := 5) (q0 := 0) ⟨hx, hb, hml, hown, hts⟩ (c_X5_needBoat_no hl0 cnt ln dr pl S0 L0 B0 B1 B2 B3 L0t W0 G0 P0 b (by first | assumption | omega) (by first | assumption | omega) (by first | assumption | omega)) (cwV 1 hts gX5_minutesFor_X5_needBoat rfl rfl rfl (by decide +kernel) ⟨Nat.le_of_ble_eq_true rfl, Nat.le_of_ble_eq_true rfl⟩) hK hNW hXP hP hD hS hA rfl rfl rfl rfl (by decide) rfl rfl rfl rfl rfl rfl hl.1 rfl (Nat.le_of_ble_eq_true rfl) dX5_minutesFor_2 ⟨Nat.le_of_ble_eq_true rfl, Nat.le_of_ble_eq_true rfl⟩ (fun ce q9 H locs hP hD hS h1 h2 h3 => li_out htab hlocks h1 h2 h3 hP hK hD hS hQ (Nat.le_of_ble_eq_true rfl) (Nat.le_of_ble_eq_true rfl))

set_option maxRecDepth 100000 in
set_option maxHeartbeats 4000000 in
theorem c_X5_waterFor_no {l : Launch} {D : va_G} {cI cZ cJ : ClassId} (hl0 : l.stackTraces = false) (n : Int) (L : Int) (a : Int) (gd : Int) (w : Wt) (op : Int → Int) (tn : Int → Int) (cnt : Int) (ln : Int → Int) (dr : Int → Int) (pl : Int → Int) (rp : Rt) (gdt : Int) (wt : Wt) (opt : Int → Int) (tnt : Int → Int) (cntt : Int) (lnt : Int → Int) (drt : Int → Int) (plt : Int → Int) (rpt : Rt) (S0 L0 W0 W1 G0 G1 G2 B0 B1 B2 B3 P0 L0t W0t W1t G0t G1t G2t B0t B1t B2t B3t P0t : Nat) (b : Int) (up : Int) (hcnt : 0 ≤ cnt ∧ cnt ≤ 10) (i_b : -2147483648 ≤ b ∧ b < 2147483648) (hv : ¬ (0 ≤ b ∧ b ≤ cnt - 1)) : CT l yX5_waterFor wsX5_waterFor 25 [.ref S0, .int (iI b), .int (iI up)] D (ty3 cI cZ cJ) (cLs   S0 L0 L0t ++ cLa   L0 W0 G0 B0 P0 ++ cWa cI n L a gd w W0 W1 ++ cGa cI cZ op tn G0 G1 G2 ++ cFl cI cnt ln dr pl B0 B1 B2 B3 ++ cRp  rp P0 ++ cLa   L0t W0t G0t B0t P0t ++ cWa cI n L a gdt wt W0t W1t ++ cGa cI cZ opt tnt G0t G1t G2t ++ cFl cI cntt lnt drt plt B0t B1t B2t B3t ++ cRp  rpt P0t) "java/lang/IndexOutOfBoundsException" := by
  refine ct_x (by decide) rfl (Nat.le_of_ble_eq_true rfl) ?_
  intro p e s mI args below meth c_0 ls A hx hb hml hts hown hlocks htab hA hP hK hD hNW hXP hS hl Q hQ
  have hown : s.vm.findClass RX5 = some mI.cls := hown
  have hl : lv_has ls 3 [(0, .ref S0), (1, .int (iI b)), (2, .int (iI up))] := hl
  refine lv_aload_n hx hb dX5_waterFor_0 rfl (lv_at hl 0 rfl) ?_
  refine lv_iload_n hx hb dX5_waterFor_1 rfl (lv_at hl 1 rfl) ?_
  exact cl_t (isC := [0, 1, 7, 8, 9, 10]) (isR := [2, 3, 4, 5, 6, 11, 12, 13, 14, 15, 16, 17, 18, 19, 20, 21, 22]) (isN := [17, 18, 0, 1, 2, 3, 4, 19, 20, 21, 22, 5, 6, 7, 8, 9, 10, 11, 12, 13, 14, 15, 16]) (wr := cWa cI n L a gd w W0 W1 ++ cGa cI cZ op tn G0 G1 G2 ++ cRp  rp P0 ++ cLa   L0t W0t G0t B0t P0t ++ cWa cI n L a gdt wt W0t W1t ++ cGa cI cZ opt tnt G0t G1t G2t ++ cFl cI cntt lnt drt plt B0t B1t B2t B3t ++ cRp  rpt P0t) (As := [.int (iI b)]) (rest := []) (ci := 5) (q0 := 0) ⟨hx, hb, hml, hown, hts⟩ (c_X5_needBoat_no hl0 cnt ln dr pl S0 L0 B0 B1 B2 B3 L0t W0 G0 P0 b (by first | assumption | omega) (by first | assumption | omega) (by first | assumption | omega)) (cwV 1 hts gX5_waterFor_X5_needBoat rfl rfl rfl (by decide +kernel) ⟨Nat.le_of_ble_eq_true rfl, Nat.le_of_ble_eq_true rfl⟩) hK hNW hXP hP hD hS hA rfl rfl rfl rfl (by decide) rfl rfl rfl rfl rfl rfl hl.1 rfl (Nat.le_of_ble_eq_true rfl) dX5_waterFor_2 ⟨Nat.le_of_ble_eq_true rfl, Nat.le_of_ble_eq_true rfl⟩ (fun ce q9 H locs hP hD hS h1 h2 h3 => li_out htab hlocks h1 h2 h3 hP hK hD hS hQ (Nat.le_of_ble_eq_true rfl) (Nat.le_of_ble_eq_true rfl))

set_option maxRecDepth 100000 in
set_option maxHeartbeats 4000000 in
theorem c_X5_rain_no1 {l : Launch} {D : va_G} {cI cZ cJ : ClassId} (hl0 : l.stackTraces = false) (n : Int) (L : Int) (a : Int) (gd : Int) (w : Wt) (op : Int → Int) (tn : Int → Int) (cnt : Int) (ln : Int → Int) (dr : Int → Int) (pl : Int → Int) (rp : Rt) (S0 L0 W0 W1 G0 G1 G2 B0 B1 B2 B3 P0 L0t : Nat) (x : Int) (i_x : -2147483648 ≤ x ∧ x < 2147483648) (hv : ¬ (1 ≤ x ∧ x ≤ 999)) : CT l yX5_rain wsX5_rain 25 [.ref S0, .int (iI x)] D (ty3 cI cZ cJ) (cLs   S0 L0 L0t ++ cLa   L0 W0 G0 B0 P0 ++ cWa cI n L a gd w W0 W1 ++ cGa cI cZ op tn G0 G1 G2 ++ cFl cI cnt ln dr pl B0 B1 B2 B3 ++ cRp  rp P0) "java/lang/IllegalArgumentException" := by
  refine ct_x (by decide) rfl (Nat.le_of_ble_eq_true rfl) ?_
  intro p e s mI args below meth c_0 ls A hx hb hml hts hown hlocks htab hA hP hK hD hNW hXP hS hl Q hQ
  have hown : s.vm.findClass RX5 = some mI.cls := hown
  have hl : lv_has ls 2 [(0, .ref S0), (1, .int (iI x))] := hl
  have hcl_2 := hts (.classLink RX5 46 "java/lang/IllegalArgumentException") (by decide +kernel)
  have hci_2 := hts (.initialized "java/lang/IllegalArgumentException") (by decide +kernel)
  refine lv_iload_n hx hb dX5_rain_0 rfl (lv_at hl 1 rfl) ?_
  refine li_const hx hb dX5_rain_1 ?_
  refine li_icmp_lt (tgt := 12) hx hb dX5_rain_2 (by decide) (ib_i (by omega) (by omega)) (by decide) (fun c_2 => ?_) (fun c_2 => ?_)
  · exact li_thr (text := "units outside 1 to 999") hx hb hl0 46 hown (by decide +kernel) hcl_2 hci_2 hXP (by decide) (fun w hw => hts w ((show ∀ w ∈ (vx_atS RX5 50 "java/lang/IllegalArgumentException" thN).filter goodWord, w ∈ wsX5_rain by decide +kernel) w hw)) th_a2 th_b2 hS (hl.1.trans hml.symm) dX5_rain_12 dX5_rain_15 dX5_rain_16 dX5_rain_18 dX5_rain_21 htab (Nat.le_of_ble_eq_true rfl) (Nat.le_of_ble_eq_true rfl) (Nat.le_of_ble_eq_true rfl) (Nat.le_of_ble_eq_true rfl) hlocks hP hK hD hQ rfl rfl
  · refine lv_iload_n hx hb dX5_rain_5 rfl (lv_at hl 1 rfl) ?_
    refine li_sipush hx hb dX5_rain_6 (by decide) ?_
    refine li_icmp_le (tgt := 22) hx hb dX5_rain_9 (by decide) (ib_i (by omega) (by omega)) (by decide) (fun c_9 => ?_) (fun c_9 => ?_)
    · exfalso; omega
    · exact li_thr (text := "units outside 1 to 999") hx hb hl0 46 hown (by decide +kernel) hcl_2 hci_2 hXP (by decide) (fun w hw => hts w ((show ∀ w ∈ (vx_atS RX5 50 "java/lang/IllegalArgumentException" thN).filter goodWord, w ∈ wsX5_rain by decide +kernel) w hw)) th_a2 th_b2 hS (hl.1.trans hml.symm) dX5_rain_12 dX5_rain_15 dX5_rain_16 dX5_rain_18 dX5_rain_21 htab (Nat.le_of_ble_eq_true rfl) (Nat.le_of_ble_eq_true rfl) (Nat.le_of_ble_eq_true rfl) (Nat.le_of_ble_eq_true rfl) hlocks hP hK hD hQ rfl rfl

set_option maxRecDepth 100000 in
set_option maxHeartbeats 4000000 in
theorem c_X5_rain_no2 {l : Launch} {D : va_G} {cI cZ cJ : ClassId} (hl0 : l.stackTraces = false) (n : Int) (L : Int) (a : Int) (gd : Int) (w : Wt) (op : Int → Int) (tn : Int → Int) (cnt : Int) (ln : Int → Int) (dr : Int → Int) (pl : Int → Int) (rp : Rt) (S0 L0 W0 W1 G0 G1 G2 B0 B1 B2 B3 P0 L0t : Nat) (x : Int) (hn : 1 ≤ n ∧ n ≤ 6) (hL : 5 ≤ L ∧ L ≤ 40) (ha : 1 ≤ a ∧ a ≤ 50) (hop : opB op) (hv : 1 ≤ x ∧ x ≤ 999) (ho2 : isO op n = true) : CT l yX5_rain wsX5_rain 25 [.ref S0, .int (iI x)] D (ty3 cI cZ cJ) (cLs   S0 L0 L0t ++ cLa   L0 W0 G0 B0 P0 ++ cWa cI n L a gd w W0 W1 ++ cGa cI cZ op tn G0 G1 G2 ++ cFl cI cnt ln dr pl B0 B1 B2 B3 ++ cRp  rp P0) "java/lang/IllegalStateException" := by
  refine ct_x (by decide) rfl (Nat.le_of_ble_eq_true rfl) ?_
  intro p e s mI args below meth c_0 ls A hx hb hml hts hown hlocks htab hA hP hK hD hNW hXP hS hl Q hQ
  have hown : s.vm.findClass RX5 = some mI.cls := hown
  have hl : lv_has ls 2 [(0, .ref S0), (1, .int (iI x))] := hl
  have hin_X2 : ∀ w ∈ wsX20, w ∈ wsX5_rain := by decide +kernel
  have hin_X5 : ∀ w ∈ wsX50, w ∈ wsX5_rain := by decide +kernel
  have hcl_3 := hts (.classLink RX5 63 "java/lang/IllegalStateException") (by decide +kernel)
  have hf_14 := hts (.fieldLink RX5 14 "LockStaircase" "ladder" "LLockStaircase$Ladder;") (by decide +kernel)
  have hci_3 := hts (.initialized "java/lang/IllegalStateException") (by decide +kernel)
  refine lv_iload_n hx hb dX5_rain_0 rfl (lv_at hl 1 rfl) ?_
  refine li_const hx hb dX5_rain_1 ?_
  refine li_icmp_lt_f (tgt := 12) hx hb dX5_rain_2 (by decide) (ib_i (by omega) (by omega)) (by decide) (by omega) ?_
  refine lv_iload_n hx hb dX5_rain_5 rfl (lv_at hl 1 rfl) ?_
  refine li_sipush hx hb dX5_rain_6 (by decide) ?_
  refine li_icmp_le_t (tgt := 22) hx hb dX5_rain_9 (by decide) (ib_i (by omega) (by omega)) (by decide) (by omega) ?_
  refine lv_aload_n hx hb dX5_rain_22 rfl (lv_at hl 0 rfl) ?_
  refine li_get (ci := 5) (v := .ref L0) (C := RX5) (T := TX5) (N := 2) (q0 := 0) (k := 0) hx hb hts hin_X5 hown hK hP rfl rfl (by decide) hf_14 rfl rfl dX5_rain_23 ?_
  refine li_getN (own := RX5) (ref := "LockStaircase$Ladder") (host := "LockStaircase") (index := 53) (ci := 2) (v := .ref G0) (C := RX2) (T := TX2) (N := 4) (q0 := 1) (k := 1) hx hb hts hin_X2 hown hK hP rfl rfl (by decide) hNW nw_X5_53 rfl rfl dX5_rain_26 ?_
  refine lv_aload_n hx hb dX5_rain_29 rfl (lv_at hl 0 rfl) ?_
  refine li_get (ci := 5) (v := .ref L0) (C := RX5) (T := TX5) (N := 2) (q0 := 0) (k := 0) hx hb hts hin_X5 hown hK hP rfl rfl (by decide) hf_14 rfl rfl dX5_rain_30 ?_
  refine li_getN (own := RX5) (ref := "LockStaircase$Ladder") (host := "LockStaircase") (index := 21) (ci := 2) (v := .ref W0) (C := RX2) (T := TX2) (N := 4) (q0 := 1) (k := 0) hx hb hts hin_X2 hown hK hP rfl rfl (by decide) hNW nw_X5_21 rfl rfl dX5_rain_33 ?_
  refine cl_i0 (isC := [2, 3]) (isR := [0, 1, 4, 5, 6, 7, 8, 9, 10, 11]) (isN := [0, 1, 10, 11, 2, 3, 4, 5, 6, 7, 8, 9]) (wr := cLs   S0 L0 L0t ++ cLa   L0 W0 G0 B0 P0 ++ cGa cI cZ op tn G0 G1 G2 ++ cFl cI cnt ln dr pl B0 B1 B2 B3 ++ cRp  rp P0) (wn := cLs   S0 L0 L0t ++ cLa   L0 W0 G0 B0 P0 ++ cWa cI n L a gd w W0 W1 ++ cGa cI cZ op tn G0 G1 G2 ++ cFl cI cnt ln dr pl B0 B1 B2 B3 ++ cRp  rp P0) (As := []) (rest := [.ref G0]) (r := n) (ci := 4) (q0 := 0) ⟨hx, hb, hml, hown, hts⟩ (c_X4_count n L a gd w W0 W1 (by first | assumption | omega) (by first | assumption | omega) (by first | assumption | omega)) (cwV 0 hts gX5_rain_X4_count rfl rfl rfl (by decide +kernel) ⟨Nat.le_of_ble_eq_true rfl, Nat.le_of_ble_eq_true rfl⟩) hK hNW hP hD hS hA rfl rfl rfl rfl (by decide) rfl rfl rfl rfl rfl rfl hl.1 rfl (Nat.le_of_ble_eq_true rfl) dX5_rain_36 ⟨Nat.zero_le _, Nat.zero_le _⟩ (fun H locs hP hD hS => ?_)
  refine cl_i0 (isC := [4, 5, 6]) (isR := [0, 1, 2, 3, 7, 8, 9, 10, 11]) (isN := [0, 1, 2, 3, 9, 10, 11, 4, 5, 6, 7, 8]) (wr := cLs   S0 L0 L0t ++ cLa   L0 W0 G0 B0 P0 ++ cWa cI n L a gd w W0 W1 ++ cFl cI cnt ln dr pl B0 B1 B2 B3 ++ cRp  rp P0) (wn := cLs   S0 L0 L0t ++ cLa   L0 W0 G0 B0 P0 ++ cWa cI n L a gd w W0 W1 ++ cGa cI cZ op tn G0 G1 G2 ++ cFl cI cnt ln dr pl B0 B1 B2 B3 ++ cRp  rp P0) (As := [.int (iI n)]) (rest := []) (r := bz (isO op n = true)) (ci := 1) (q0 := 0) ⟨hx, hb, hml, hown, hts⟩ (c_X1_isOpenAt op tn G0 G1 G2 n (by first | assumption | omega) (by first | assumption | omega)) (cwV 1 hts gX5_rain_X1_isOpenAt rfl rfl rfl (by decide +kernel) ⟨Nat.le_of_ble_eq_true rfl, Nat.le_of_ble_eq_true rfl⟩) hK hNW hP hD hS hA rfl rfl rfl rfl (by decide) rfl rfl rfl rfl rfl rfl hl.1 rfl (Nat.le_of_ble_eq_true rfl) dX5_rain_39 ⟨Nat.zero_le _, Nat.zero_le _⟩ (fun H locs hP hD hS => ?_)
  refine li_top (b := 1) (bz_t (by exact ho2)) ?_
  refine li_if_eq_f (tgt := 55) hx hb dX5_rain_42 (by decide) (by decide) (by decide) ?_
  exact li_thr (text := "the highest gate is open") hx hb hl0 63 hown (by decide +kernel) hcl_3 hci_3 hXP (by decide) (fun w hw => hts w ((show ∀ w ∈ (vx_atS RX5 67 "java/lang/IllegalStateException" thN).filter goodWord, w ∈ wsX5_rain by decide +kernel) w hw)) th_a3 th_b3 hS (hl.1.trans hml.symm) dX5_rain_45 dX5_rain_48 dX5_rain_49 dX5_rain_51 dX5_rain_54 htab (Nat.le_of_ble_eq_true rfl) (Nat.le_of_ble_eq_true rfl) (Nat.le_of_ble_eq_true rfl) (Nat.le_of_ble_eq_true rfl) hlocks hP hK hD hQ rfl rfl

set_option maxRecDepth 100000 in
set_option maxHeartbeats 4000000 in
theorem c_X5_open_no2 {l : Launch} {D : va_G} {cI cZ cJ : ClassId} (hl0 : l.stackTraces = false) (n : Int) (L : Int) (a : Int) (gd : Int) (w : Wt) (op : Int → Int) (tn : Int → Int) (cnt : Int) (ln : Int → Int) (dr : Int → Int) (pl : Int → Int) (rp : Rt) (S0 L0 W0 W1 G0 G1 G2 B0 B1 B2 B3 P0 L0t : Nat) (x : Int) (hn : 1 ≤ n ∧ n ≤ 6) (hL : 5 ≤ L ∧ L ≤ 40) (ha : 1 ≤ a ∧ a ≤ 50) (hw : WI n L a w) (hop : opB op) (htn : tnB tn) (hv : 0 ≤ x ∧ x ≤ n) (hc : opO n L a w op tn x ≠ 0) : CT l yX5_open wsX5_open 25 [.ref S0, .int (iI x)] D (ty3 cI cZ cJ) (cLs   S0 L0 L0t ++ cLa   L0 W0 G0 B0 P0 ++ cWa cI n L a gd w W0 W1 ++ cGa cI cZ op tn G0 G1 G2 ++ cFl cI cnt ln dr pl B0 B1 B2 B3 ++ cRp  rp P0) "java/lang/IllegalStateException" := by
  refine ct_x (by decide) rfl (Nat.le_of_ble_eq_true rfl) ?_
  intro p e s mI args below meth c_0 ls A hx hb hml hts hown hlocks htab hA hP hK hD hNW hXP hS hl Q hQ
  have hown : s.vm.findClass RX5 = some mI.cls := hown
  have hl : lv_has ls 2 [(0, .ref S0), (1, .int (iI x))] := hl
  have hin_X5 : ∀ w ∈ wsX50, w ∈ wsX5_open := by decide +kernel
  have hcl_3 := hts (.classLink RX5 63 "java/lang/IllegalStateException") (by decide +kernel)
  have hf_14 := hts (.fieldLink RX5 14 "LockStaircase" "ladder" "LLockStaircase$Ladder;") (by decide +kernel)
  have hci_3 := hts (.initialized "java/lang/IllegalStateException") (by decide +kernel)
  refine lv_aload_n hx hb dX5_open_0 rfl (lv_at hl 0 rfl) ?_
  refine lv_iload_n hx hb dX5_open_1 rfl (lv_at hl 1 rfl) ?_
  refine cl_v0 (isC := [0, 1, 2, 3]) (isR := [4, 5, 6, 7, 8, 9, 10, 11]) (isN := [8, 9, 10, 11, 0, 1, 2, 3, 4, 5, 6, 7]) (wr := cGa cI cZ op tn G0 G1 G2 ++ cFl cI cnt ln dr pl B0 B1 B2 B3 ++ cRp  rp P0) (wn := cLs   S0 L0 L0t ++ cLa   L0 W0 G0 B0 P0 ++ cWa cI n L a gd w W0 W1 ++ cGa cI cZ op tn G0 G1 G2 ++ cFl cI cnt ln dr pl B0 B1 B2 B3 ++ cRp  rp P0) (As := [.int (iI x)]) (rest := []) (ci := 5) (q0 := 0) ⟨hx, hb, hml, hown, hts⟩ (c_X5_needGate_ok n L a gd w S0 L0 W0 W1 L0t G0 B0 P0 x (by first | assumption | omega) (by first | assumption | omega) (by first | assumption | omega) (by first | assumption | omega)) (cwV 1 hts gX5_open_X5_needGate rfl rfl rfl (by decide +kernel) ⟨Nat.le_of_ble_eq_true rfl, Nat.le_of_ble_eq_true rfl⟩) hK hNW hP hD hS hA rfl rfl rfl rfl (by decide) rfl rfl rfl rfl rfl rfl hl.1 rfl (Nat.le_of_ble_eq_true rfl) dX5_open_2 ⟨Nat.zero_le _, Nat.zero_le _⟩ (fun H locs hP hD hS => ?_)
  refine lv_aload_n hx hb dX5_open_5 rfl (lv_at hl 0 rfl) ?_
  refine li_get (ci := 5) (v := .ref L0) (C := RX5) (T := TX5) (N := 2) (q0 := 0) (k := 0) hx hb hts hin_X5 hown hK hP rfl rfl (by decide) hf_14 rfl rfl dX5_open_6 ?_
  refine lv_iload_n hx hb dX5_open_9 rfl (lv_at hl 1 rfl) ?_
  refine cl_i0 (isC := [1, 2, 3, 4, 5, 6]) (isR := [0, 7, 8, 9, 10, 11]) (isN := [0, 6, 7, 8, 9, 10, 11, 1, 2, 3, 4, 5]) (wr := cLs   S0 L0 L0t ++ cFl cI cnt ln dr pl B0 B1 B2 B3 ++ cRp  rp P0) (wn := cLs   S0 L0 L0t ++ cLa   L0 W0 G0 B0 P0 ++ cWa cI n L a gd w W0 W1 ++ cGa cI cZ op tn G0 G1 G2 ++ cFl cI cnt ln dr pl B0 B1 B2 B3 ++ cRp  rp P0) (As := [.int (iI x)]) (rest := []) (r := opO n L a w op tn x) (ci := 2) (q0 := 0) ⟨hx, hb, hml, hown, hts⟩ (c_X2_openingObstacle n L a gd w op tn L0 W0 W1 G0 G1 G2 B0 P0 x (by first | assumption | omega) (by first | assumption | omega) (by first | assumption | omega) (by first | assumption | omega) (by first | assumption | omega) (by first | assumption | omega) (by first | assumption | omega)) (cwV 1 hts gX5_open_X2_openingObstacle rfl rfl rfl (by decide +kernel) ⟨Nat.le_of_ble_eq_true rfl, Nat.le_of_ble_eq_true rfl⟩) hK hNW hP hD hS hA rfl rfl rfl rfl (by decide) rfl rfl rfl rfl rfl rfl hl.1 rfl (Nat.le_of_ble_eq_true rfl) dX5_open_10 ⟨Nat.zero_le _, Nat.zero_le _⟩ (fun H locs hP hD hS => ?_)
  have hob := opO_b n L a w op tn x
  refine li_if_eq_f (tgt := 26) hx hb dX5_open_13 (by decide) (ib_i (by omega) (by omega)) (by exact hc) ?_
  exact li_thr (text := "the gate cannot be opened") hx hb hl0 63 hown (by decide +kernel) hcl_3 hci_3 hXP (by decide) (fun w hw => hts w ((show ∀ w ∈ (vx_atS RX5 67 "java/lang/IllegalStateException" thN).filter goodWord, w ∈ wsX5_open by decide +kernel) w hw)) th_a3 th_b3 hS (hl.1.trans hml.symm) dX5_open_16 dX5_open_19 dX5_open_20 dX5_open_22 dX5_open_25 htab (Nat.le_of_ble_eq_true rfl) (Nat.le_of_ble_eq_true rfl) (Nat.le_of_ble_eq_true rfl) (Nat.le_of_ble_eq_true rfl) hlocks hP hK hD hQ rfl rfl

set_option maxRecDepth 100000 in
set_option maxHeartbeats 4000000 in
theorem c_X5_wind_no2 {l : Launch} {D : va_G} {cI cZ cJ : ClassId} (hl0 : l.stackTraces = false) (n : Int) (L : Int) (a : Int) (gd : Int) (w : Wt) (op : Int → Int) (tn : Int → Int) (cnt : Int) (ln : Int → Int) (dr : Int → Int) (pl : Int → Int) (rp : Rt) (S0 L0 W0 W1 G0 G1 G2 B0 B1 B2 B3 P0 L0t : Nat) (x : Int) (y : Int) (hn : 1 ≤ n ∧ n ≤ 6) (hL : 5 ≤ L ∧ L ≤ 40) (ha : 1 ≤ a ∧ a ≤ 50) (hv : 0 ≤ x ∧ x ≤ n) (i_y : -2147483648 ≤ y ∧ y < 2147483648) (hy2 : ¬ (0 ≤ y ∧ y ≤ 5)) : CT l yX5_wind wsX5_wind 25 [.ref S0, .int (iI x), .int (iI y)] D (ty3 cI cZ cJ) (cLs   S0 L0 L0t ++ cLa   L0 W0 G0 B0 P0 ++ cWa cI n L a gd w W0 W1 ++ cGa cI cZ op tn G0 G1 G2 ++ cFl cI cnt ln dr pl B0 B1 B2 B3 ++ cRp  rp P0) "java/lang/IllegalArgumentException" := by
  refine ct_x (by decide) rfl (Nat.le_of_ble_eq_true rfl) ?_
  intro p e s mI args below meth c_0 ls A hx hb hml hts hown hlocks htab hA hP hK hD hNW hXP hS hl Q hQ
  have hown : s.vm.findClass RX5 = some mI.cls := hown
  have hl : lv_has ls 4 [(0, .ref S0), (1, .int (iI x)), (2, .int (iI y))] := hl
  have hcl_2 := hts (.classLink RX5 46 "java/lang/IllegalArgumentException") (by decide +kernel)
  have hci_2 := hts (.initialized "java/lang/IllegalArgumentException") (by decide +kernel)
  refine lv_aload_n hx hb dX5_wind_0 rfl (lv_at hl 0 rfl) ?_
  refine lv_iload_n hx hb dX5_wind_1 rfl (lv_at hl 1 rfl) ?_
  refine cl_v0 (isC := [0, 1, 2, 3]) (isR := [4, 5, 6, 7, 8, 9, 10, 11]) (isN := [8, 9, 10, 11, 0, 1, 2, 3, 4, 5, 6, 7]) (wr := cGa cI cZ op tn G0 G1 G2 ++ cFl cI cnt ln dr pl B0 B1 B2 B3 ++ cRp  rp P0) (wn := cLs   S0 L0 L0t ++ cLa   L0 W0 G0 B0 P0 ++ cWa cI n L a gd w W0 W1 ++ cGa cI cZ op tn G0 G1 G2 ++ cFl cI cnt ln dr pl B0 B1 B2 B3 ++ cRp  rp P0) (As := [.int (iI x)]) (rest := []) (ci := 5) (q0 := 0) ⟨hx, hb, hml, hown, hts⟩ (c_X5_needGate_ok n L a gd w S0 L0 W0 W1 L0t G0 B0 P0 x (by first | assumption | omega) (by first | assumption | omega) (by first | assumption | omega) (by first | assumption | omega)) (cwV 1 hts gX5_wind_X5_needGate rfl rfl rfl (by decide +kernel) ⟨Nat.le_of_ble_eq_true rfl, Nat.le_of_ble_eq_true rfl⟩) hK hNW hP hD hS hA rfl rfl rfl rfl (by decide) rfl rfl rfl rfl rfl rfl hl.1 rfl (Nat.le_of_ble_eq_true rfl) dX5_wind_2 ⟨Nat.zero_le _, Nat.zero_le _⟩ (fun H locs hP hD hS => ?_)
  refine lv_iload_n hx hb dX5_wind_5 rfl (lv_at hl 2 rfl) ?_
  refine li_if_lt (tgt := 14) hx hb dX5_wind_6 (by decide) (ib_i (by omega) (by omega)) (fun c_6 => ?_) (fun c_6 => ?_)
  · exact li_thr (text := "turns outside 0 to 5") hx hb hl0 46 hown (by decide +kernel) hcl_2 hci_2 hXP (by decide) (fun w hw => hts w ((show ∀ w ∈ (vx_atS RX5 50 "java/lang/IllegalArgumentException" thN).filter goodWord, w ∈ wsX5_wind by decide +kernel) w hw)) th_a2 th_b2 hS (hl.1.trans hml.symm) dX5_wind_14 dX5_wind_17 dX5_wind_18 dX5_wind_20 dX5_wind_23 htab (Nat.le_of_ble_eq_true rfl) (Nat.le_of_ble_eq_true rfl) (Nat.le_of_ble_eq_true rfl) (Nat.le_of_ble_eq_true rfl) hlocks hP hK hD hQ rfl rfl
  · refine lv_iload_n hx hb dX5_wind_9 rfl (lv_at hl 2 rfl) ?_
    refine li_const hx hb dX5_wind_10 ?_
    refine li_icmp_le (tgt := 24) hx hb dX5_wind_11 (by decide) (ib_i (by omega) (by omega)) (by decide) (fun c_11 => ?_) (fun c_11 => ?_)
    · exfalso; omega
    · exact li_thr (text := "turns outside 0 to 5") hx hb hl0 46 hown (by decide +kernel) hcl_2 hci_2 hXP (by decide) (fun w hw => hts w ((show ∀ w ∈ (vx_atS RX5 50 "java/lang/IllegalArgumentException" thN).filter goodWord, w ∈ wsX5_wind by decide +kernel) w hw)) th_a2 th_b2 hS (hl.1.trans hml.symm) dX5_wind_14 dX5_wind_17 dX5_wind_18 dX5_wind_20 dX5_wind_23 htab (Nat.le_of_ble_eq_true rfl) (Nat.le_of_ble_eq_true rfl) (Nat.le_of_ble_eq_true rfl) (Nat.le_of_ble_eq_true rfl) hlocks hP hK hD hQ rfl rfl

set_option maxRecDepth 100000 in
set_option maxHeartbeats 4000000 in
theorem c_X5_wind_no3 {l : Launch} {D : va_G} {cI cZ cJ : ClassId} (hl0 : l.stackTraces = false) (n : Int) (L : Int) (a : Int) (gd : Int) (w : Wt) (op : Int → Int) (tn : Int → Int) (cnt : Int) (ln : Int → Int) (dr : Int → Int) (pl : Int → Int) (rp : Rt) (S0 L0 W0 W1 G0 G1 G2 B0 B1 B2 B3 P0 L0t : Nat) (x : Int) (y : Int) (hn : 1 ≤ n ∧ n ≤ 6) (hL : 5 ≤ L ∧ L ≤ 40) (ha : 1 ≤ a ∧ a ≤ 50) (hop : opB op) (hv : 0 ≤ x ∧ x ≤ n) (hy2 : 0 ≤ y ∧ y ≤ 5) (hb9 : y ≠ 0 ∧ beO op x = true) : CT l yX5_wind wsX5_wind 25 [.ref S0, .int (iI x), .int (iI y)] D (ty3 cI cZ cJ) (cLs   S0 L0 L0t ++ cLa   L0 W0 G0 B0 P0 ++ cWa cI n L a gd w W0 W1 ++ cGa cI cZ op tn G0 G1 G2 ++ cFl cI cnt ln dr pl B0 B1 B2 B3 ++ cRp  rp P0) "java/lang/IllegalStateException" := by
  refine ct_x (by decide) rfl (Nat.le_of_ble_eq_true rfl) ?_
  intro p e s mI args below meth c_0 ls A hx hb hml hts hown hlocks htab hA hP hK hD hNW hXP hS hl Q hQ
  have hown : s.vm.findClass RX5 = some mI.cls := hown
  have hl : lv_has ls 4 [(0, .ref S0), (1, .int (iI x)), (2, .int (iI y))] := hl
  have hin_X2 : ∀ w ∈ wsX20, w ∈ wsX5_wind := by decide +kernel
  have hin_X5 : ∀ w ∈ wsX50, w ∈ wsX5_wind := by decide +kernel
  have hcl_3 := hts (.classLink RX5 63 "java/lang/IllegalStateException") (by decide +kernel)
  have hf_14 := hts (.fieldLink RX5 14 "LockStaircase" "ladder" "LLockStaircase$Ladder;") (by decide +kernel)
  have hci_3 := hts (.initialized "java/lang/IllegalStateException") (by decide +kernel)
  refine lv_aload_n hx hb dX5_wind_0 rfl (lv_at hl 0 rfl) ?_
  refine lv_iload_n hx hb dX5_wind_1 rfl (lv_at hl 1 rfl) ?_
  refine cl_v0 (isC := [0, 1, 2, 3]) (isR := [4, 5, 6, 7, 8, 9, 10, 11]) (isN := [8, 9, 10, 11, 0, 1, 2, 3, 4, 5, 6, 7]) (wr := cGa cI cZ op tn G0 G1 G2 ++ cFl cI cnt ln dr pl B0 B1 B2 B3 ++ cRp  rp P0) (wn := cLs   S0 L0 L0t ++ cLa   L0 W0 G0 B0 P0 ++ cWa cI n L a gd w W0 W1 ++ cGa cI cZ op tn G0 G1 G2 ++ cFl cI cnt ln dr pl B0 B1 B2 B3 ++ cRp  rp P0) (As := [.int (iI x)]) (rest := []) (ci := 5) (q0 := 0) ⟨hx, hb, hml, hown, hts⟩ (c_X5_needGate_ok n L a gd w S0 L0 W0 W1 L0t G0 B0 P0 x (by first | assumption | omega) (by first | assumption | omega) (by first | assumption | omega) (by first | assumption | omega)) (cwV 1 hts gX5_wind_X5_needGate rfl rfl rfl (by decide +kernel) ⟨Nat.le_of_ble_eq_true rfl, Nat.le_of_ble_eq_true rfl⟩) hK hNW hP hD hS hA rfl rfl rfl rfl (by decide) rfl rfl rfl rfl rfl rfl hl.1 rfl (Nat.le_of_ble_eq_true rfl) dX5_wind_2 ⟨Nat.zero_le _, Nat.zero_le _⟩ (fun H locs hP hD hS => ?_)
  refine lv_iload_n hx hb dX5_wind_5 rfl (lv_at hl 2 rfl) ?_
  refine li_if_lt_f (tgt := 14) hx hb dX5_wind_6 (by decide) (ib_i (by omega) (by omega)) (by omega) ?_
  refine lv_iload_n hx hb dX5_wind_9 rfl (lv_at hl 2 rfl) ?_
  refine li_const hx hb dX5_wind_10 ?_
  refine li_icmp_le_t (tgt := 24) hx hb dX5_wind_11 (by decide) (ib_i (by omega) (by omega)) (by decide) (by omega) ?_
  refine lv_iload_n hx hb dX5_wind_24 rfl (lv_at hl 2 rfl) ?_
  refine li_if_le_f (tgt := 52) hx hb dX5_wind_25 (by decide) (ib_i (by omega) (by omega)) (by omega) ?_
  refine lv_aload_n hx hb dX5_wind_28 rfl (lv_at hl 0 rfl) ?_
  refine li_get (ci := 5) (v := .ref L0) (C := RX5) (T := TX5) (N := 2) (q0 := 0) (k := 0) hx hb hts hin_X5 hown hK hP rfl rfl (by decide) hf_14 rfl rfl dX5_wind_29 ?_
  refine li_getN (own := RX5) (ref := "LockStaircase$Ladder") (host := "LockStaircase") (index := 53) (ci := 2) (v := .ref G0) (C := RX2) (T := TX2) (N := 4) (q0 := 1) (k := 1) hx hb hts hin_X2 hown hK hP rfl rfl (by decide) hNW nw_X5_53 rfl rfl dX5_wind_32 ?_
  refine lv_iload_n hx hb dX5_wind_35 rfl (lv_at hl 1 rfl) ?_
  refine cl_i0 (isC := [4, 5, 6]) (isR := [0, 1, 2, 3, 7, 8, 9, 10, 11]) (isN := [0, 1, 2, 3, 9, 10, 11, 4, 5, 6, 7, 8]) (wr := cLs   S0 L0 L0t ++ cLa   L0 W0 G0 B0 P0 ++ cWa cI n L a gd w W0 W1 ++ cFl cI cnt ln dr pl B0 B1 B2 B3 ++ cRp  rp P0) (wn := cLs   S0 L0 L0t ++ cLa   L0 W0 G0 B0 P0 ++ cWa cI n L a gd w W0 W1 ++ cGa cI cZ op tn G0 G1 G2 ++ cFl cI cnt ln dr pl B0 B1 B2 B3 ++ cRp  rp P0) (As := [.int (iI x)]) (rest := []) (r := bz (beO op x = true)) (ci := 1) (q0 := 0) ⟨hx, hb, hml, hown, hts⟩ (c_X1_isOpenBeside op tn G0 G1 G2 x (by first | assumption | omega) (by first | assumption | omega)) (cwV 1 hts gX5_wind_X1_isOpenBeside rfl rfl rfl (by decide +kernel) ⟨Nat.le_of_ble_eq_true rfl, Nat.le_of_ble_eq_true rfl⟩) hK hNW hP hD hS hA rfl rfl rfl rfl (by decide) rfl rfl rfl rfl rfl rfl hl.1 rfl (Nat.le_of_ble_eq_true rfl) dX5_wind_36 ⟨Nat.zero_le _, Nat.zero_le _⟩ (fun H locs hP hD hS => ?_)
  refine li_ifb_eq (tgt := 52) hx hb dX5_wind_39 (by decide) (fun c_39 => ?_) (fun c_39 => ?_)
  · exact absurd c_39 (by exact fun h => h hb9.2)
  · exact li_thr (text := "a gate beside the sluice is open") hx hb hl0 63 hown (by decide +kernel) hcl_3 hci_3 hXP (by decide) (fun w hw => hts w ((show ∀ w ∈ (vx_atS RX5 67 "java/lang/IllegalStateException" thN).filter goodWord, w ∈ wsX5_wind by decide +kernel) w hw)) th_a3 th_b3 hS (hl.1.trans hml.symm) dX5_wind_42 dX5_wind_45 dX5_wind_46 dX5_wind_48 dX5_wind_51 htab (Nat.le_of_ble_eq_true rfl) (Nat.le_of_ble_eq_true rfl) (Nat.le_of_ble_eq_true rfl) (Nat.le_of_ble_eq_true rfl) hlocks hP hK hD hQ rfl rfl

set_option maxRecDepth 100000 in
set_option maxHeartbeats 4000000 in
theorem c_X5_pass_no {l : Launch} {D : va_G} {cI cZ cJ : ClassId} (hl0 : l.stackTraces = false) (n : Int) (L : Int) (a : Int) (gd : Int) (w : Wt) (op : Int → Int) (tn : Int → Int) (cnt : Int) (ln : Int → Int) (dr : Int → Int) (pl : Int → Int) (rp : Rt) (S0 L0 W0 W1 G0 G1 G2 B0 B1 B2 B3 P0 L0t : Nat) (x : Int) (i_x : -2147483648 ≤ x ∧ x < 2147483648) (hv : ¬ (1 ≤ x ∧ x ≤ 60)) : CT l yX5_pass wsX5_pass 25 [.ref S0, .int (iI x)] D (ty3 cI cZ cJ) (cLs   S0 L0 L0t ++ cLa   L0 W0 G0 B0 P0 ++ cWa cI n L a gd w W0 W1 ++ cGa cI cZ op tn G0 G1 G2 ++ cFl cI cnt ln dr pl B0 B1 B2 B3 ++ cRp  rp P0) "java/lang/IllegalArgumentException" := by
  refine ct_x (by decide) rfl (Nat.le_of_ble_eq_true rfl) ?_
  intro p e s mI args below meth c_0 ls A hx hb hml hts hown hlocks htab hA hP hK hD hNW hXP hS hl Q hQ
  have hown : s.vm.findClass RX5 = some mI.cls := hown
  have hl : lv_has ls 4 [(0, .ref S0), (1, .int (iI x))] := hl
  have hcl_2 := hts (.classLink RX5 46 "java/lang/IllegalArgumentException") (by decide +kernel)
  have hci_2 := hts (.initialized "java/lang/IllegalArgumentException") (by decide +kernel)
  refine lv_iload_n hx hb dX5_pass_0 rfl (lv_at hl 1 rfl) ?_
  refine li_const hx hb dX5_pass_1 ?_
  refine li_icmp_lt (tgt := 11) hx hb dX5_pass_2 (by decide) (ib_i (by omega) (by omega)) (by decide) (fun c_2 => ?_) (fun c_2 => ?_)
  · exact li_thr (text := "minutes outside 1 to 60") hx hb hl0 46 hown (by decide +kernel) hcl_2 hci_2 hXP (by decide) (fun w hw => hts w ((show ∀ w ∈ (vx_atS RX5 50 "java/lang/IllegalArgumentException" thN).filter goodWord, w ∈ wsX5_pass by decide +kernel) w hw)) th_a2 th_b2 hS (hl.1.trans hml.symm) dX5_pass_11 dX5_pass_14 dX5_pass_15 dX5_pass_17 dX5_pass_20 htab (Nat.le_of_ble_eq_true rfl) (Nat.le_of_ble_eq_true rfl) (Nat.le_of_ble_eq_true rfl) (Nat.le_of_ble_eq_true rfl) hlocks hP hK hD hQ rfl rfl
  · refine lv_iload_n hx hb dX5_pass_5 rfl (lv_at hl 1 rfl) ?_
    refine li_bipush hx hb dX5_pass_6 (by decide) ?_
    refine li_icmp_le (tgt := 21) hx hb dX5_pass_8 (by decide) (ib_i (by omega) (by omega)) (by decide) (fun c_8 => ?_) (fun c_8 => ?_)
    · exfalso; omega
    · exact li_thr (text := "minutes outside 1 to 60") hx hb hl0 46 hown (by decide +kernel) hcl_2 hci_2 hXP (by decide) (fun w hw => hts w ((show ∀ w ∈ (vx_atS RX5 50 "java/lang/IllegalArgumentException" thN).filter goodWord, w ∈ wsX5_pass by decide +kernel) w hw)) th_a2 th_b2 hS (hl.1.trans hml.symm) dX5_pass_11 dX5_pass_14 dX5_pass_15 dX5_pass_17 dX5_pass_20 htab (Nat.le_of_ble_eq_true rfl) (Nat.le_of_ble_eq_true rfl) (Nat.le_of_ble_eq_true rfl) (Nat.le_of_ble_eq_true rfl) hlocks hP hK hD hQ rfl rfl

set_option maxRecDepth 100000 in
set_option maxHeartbeats 4000000 in
theorem c_X5_addBoat_no1 {l : Launch} {D : va_G} {cI cZ cJ : ClassId} (hl0 : l.stackTraces = false) (n : Int) (L : Int) (a : Int) (gd : Int) (w : Wt) (op : Int → Int) (tn : Int → Int) (cnt : Int) (ln : Int → Int) (dr : Int → Int) (pl : Int → Int) (rp : Rt) (S0 L0 W0 W1 G0 G1 G2 B0 B1 B2 B3 P0 L0t : Nat) (x : Int) (y : Int) (z : Int) (i_x : -2147483648 ≤ x ∧ x < 2147483648) (i_y : -2147483648 ≤ y ∧ y < 2147483648) (hv1 : ¬ ((5 ≤ x ∧ x ≤ 60) ∧ (1 ≤ y ∧ y ≤ 19))) : CT l yX5_addBoat wsX5_addBoat 25 [.ref S0, .int (iI x), .int (iI y), .int (iI z)] D (ty3 cI cZ cJ) (cLs   S0 L0 L0t ++ cLa   L0 W0 G0 B0 P0 ++ cWa cI n L a gd w W0 W1 ++ cGa cI cZ op tn G0 G1 G2 ++ cFl cI cnt ln dr pl B0 B1 B2 B3 ++ cRp  rp P0) "java/lang/IllegalArgumentException" := by
  refine ct_x (by decide) rfl (Nat.le_of_ble_eq_true rfl) ?_
  intro p e s mI args below meth c_0 ls A hx hb hml hts hown hlocks htab hA hP hK hD hNW hXP hS hl Q hQ
  have hown : s.vm.findClass RX5 = some mI.cls := hown
  have hl : lv_has ls 4 [(0, .ref S0), (1, .int (iI x)), (2, .int (iI y)), (3, .int (iI z))] := hl
  have hcl_2 := hts (.classLink RX5 46 "java/lang/IllegalArgumentException") (by decide +kernel)
  have hci_2 := hts (.initialized "java/lang/IllegalArgumentException") (by decide +kernel)
  refine lv_iload_n hx hb dX5_addBoat_0 rfl (lv_at hl 1 rfl) ?_
  refine li_const hx hb dX5_addBoat_1 ?_
  refine li_icmp_lt (tgt := 11) hx hb dX5_addBoat_2 (by decide) (ib_i (by omega) (by omega)) (by decide) (fun c_2 => ?_) (fun c_2 => ?_)
  · exact li_thr (text := "length outside 5 to 60") hx hb hl0 46 hown (by decide +kernel) hcl_2 hci_2 hXP (by decide) (fun w hw => hts w ((show ∀ w ∈ (vx_atS RX5 50 "java/lang/IllegalArgumentException" thN).filter goodWord, w ∈ wsX5_addBoat by decide +kernel) w hw)) th_a2 th_b2 hS (hl.1.trans hml.symm) dX5_addBoat_11 dX5_addBoat_14 dX5_addBoat_15 dX5_addBoat_17 dX5_addBoat_20 htab (Nat.le_of_ble_eq_true rfl) (Nat.le_of_ble_eq_true rfl) (Nat.le_of_ble_eq_true rfl) (Nat.le_of_ble_eq_true rfl) hlocks hP hK hD hQ rfl rfl
  · refine lv_iload_n hx hb dX5_addBoat_5 rfl (lv_at hl 1 rfl) ?_
    refine li_bipush hx hb dX5_addBoat_6 (by decide) ?_
    refine li_icmp_le (tgt := 21) hx hb dX5_addBoat_8 (by decide) (ib_i (by omega) (by omega)) (by decide) (fun c_8 => ?_) (fun c_8 => ?_)
    · refine lv_iload_n hx hb dX5_addBoat_21 rfl (lv_at hl 2 rfl) ?_
      refine li_const hx hb dX5_addBoat_22 ?_
      refine li_icmp_lt (tgt := 32) hx hb dX5_addBoat_23 (by decide) (ib_i (by omega) (by omega)) (by decide) (fun c_23 => ?_) (fun c_23 => ?_)
      · exact li_thr (text := "draught outside 1 to 19") hx hb hl0 46 hown (by decide +kernel) hcl_2 hci_2 hXP (by decide) (fun w hw => hts w ((show ∀ w ∈ (vx_atS RX5 50 "java/lang/IllegalArgumentException" thN).filter goodWord, w ∈ wsX5_addBoat by decide +kernel) w hw)) th_a2 th_b2 hS (hl.1.trans hml.symm) dX5_addBoat_32 dX5_addBoat_35 dX5_addBoat_36 dX5_addBoat_38 dX5_addBoat_41 htab (Nat.le_of_ble_eq_true rfl) (Nat.le_of_ble_eq_true rfl) (Nat.le_of_ble_eq_true rfl) (Nat.le_of_ble_eq_true rfl) hlocks hP hK hD hQ rfl rfl
      · refine lv_iload_n hx hb dX5_addBoat_26 rfl (lv_at hl 2 rfl) ?_
        refine li_bipush hx hb dX5_addBoat_27 (by decide) ?_
        refine li_icmp_le (tgt := 42) hx hb dX5_addBoat_29 (by decide) (ib_i (by omega) (by omega)) (by decide) (fun c_29 => ?_) (fun c_29 => ?_)
        · exfalso; omega
        · exact li_thr (text := "draught outside 1 to 19") hx hb hl0 46 hown (by decide +kernel) hcl_2 hci_2 hXP (by decide) (fun w hw => hts w ((show ∀ w ∈ (vx_atS RX5 50 "java/lang/IllegalArgumentException" thN).filter goodWord, w ∈ wsX5_addBoat by decide +kernel) w hw)) th_a2 th_b2 hS (hl.1.trans hml.symm) dX5_addBoat_32 dX5_addBoat_35 dX5_addBoat_36 dX5_addBoat_38 dX5_addBoat_41 htab (Nat.le_of_ble_eq_true rfl) (Nat.le_of_ble_eq_true rfl) (Nat.le_of_ble_eq_true rfl) (Nat.le_of_ble_eq_true rfl) hlocks hP hK hD hQ rfl rfl
    · exact li_thr (text := "length outside 5 to 60") hx hb hl0 46 hown (by decide +kernel) hcl_2 hci_2 hXP (by decide) (fun w hw => hts w ((show ∀ w ∈ (vx_atS RX5 50 "java/lang/IllegalArgumentException" thN).filter goodWord, w ∈ wsX5_addBoat by decide +kernel) w hw)) th_a2 th_b2 hS (hl.1.trans hml.symm) dX5_addBoat_11 dX5_addBoat_14 dX5_addBoat_15 dX5_addBoat_17 dX5_addBoat_20 htab (Nat.le_of_ble_eq_true rfl) (Nat.le_of_ble_eq_true rfl) (Nat.le_of_ble_eq_true rfl) (Nat.le_of_ble_eq_true rfl) hlocks hP hK hD hQ rfl rfl

set_option maxRecDepth 100000 in
set_option maxHeartbeats 4000000 in
theorem c_X5_addBoat_no2 {l : Launch} {D : va_G} {cI cZ cJ : ClassId} (hl0 : l.stackTraces = false) (n : Int) (L : Int) (a : Int) (gd : Int) (w : Wt) (op : Int → Int) (tn : Int → Int) (cnt : Int) (ln : Int → Int) (dr : Int → Int) (pl : Int → Int) (rp : Rt) (S0 L0 W0 W1 G0 G1 G2 B0 B1 B2 B3 P0 L0t : Nat) (x : Int) (y : Int) (z : Int) (hn : 1 ≤ n ∧ n ≤ 6) (hL : 5 ≤ L ∧ L ≤ 40) (ha : 1 ≤ a ∧ a ≤ 50) (hw : WI n L a w) (hcnt : 0 ≤ cnt ∧ cnt ≤ 10) (hz9 : z = 0 ∨ z = 1) (hv1 : 5 ≤ x ∧ x ≤ 60) (hv2 : 1 ≤ y ∧ y ≤ 19) (hv3 : ¬ (cnt ≤ 9 ∧ (z = 0 ∨ y ≤ w.1 / a))) : CT l yX5_addBoat wsX5_addBoat 25 [.ref S0, .int (iI x), .int (iI y), .int (iI z)] D (ty3 cI cZ cJ) (cLs   S0 L0 L0t ++ cLa   L0 W0 G0 B0 P0 ++ cWa cI n L a gd w W0 W1 ++ cGa cI cZ op tn G0 G1 G2 ++ cFl cI cnt ln dr pl B0 B1 B2 B3 ++ cRp  rp P0) "java/lang/IllegalStateException" := by
  refine ct_x (by decide) rfl (Nat.le_of_ble_eq_true rfl) ?_
  intro p e s mI args below meth c_0 ls A hx hb hml hts hown hlocks htab hA hP hK hD hNW hXP hS hl Q hQ
  have hown : s.vm.findClass RX5 = some mI.cls := hown
  have hl : lv_has ls 4 [(0, .ref S0), (1, .int (iI x)), (2, .int (iI y)), (3, .int (iI z))] := hl
  have hin_X0 : ∀ w ∈ wsX00, w ∈ wsX5_addBoat := by decide +kernel
  have hin_X2 : ∀ w ∈ wsX20, w ∈ wsX5_addBoat := by decide +kernel
  have hin_X5 : ∀ w ∈ wsX50, w ∈ wsX5_addBoat := by decide +kernel
  have hcl_3 := hts (.classLink RX5 63 "java/lang/IllegalStateException") (by decide +kernel)
  have hf_14 := hts (.fieldLink RX5 14 "LockStaircase" "ladder" "LLockStaircase$Ladder;") (by decide +kernel)
  have hci_3 := hts (.initialized "java/lang/IllegalStateException") (by decide +kernel)
  have hw1 : -1000 ≤ w.1 ∧ w.1 ≤ 20 * a := hw.1
  have d1 := dv_b ha hw1.1 hw1.2
  refine lv_iload_n hx hb dX5_addBoat_0 rfl (lv_at hl 1 rfl) ?_
  refine li_const hx hb dX5_addBoat_1 ?_
  refine li_icmp_lt_f (tgt := 11) hx hb dX5_addBoat_2 (by decide) (ib_i (by omega) (by omega)) (by decide) (by omega) ?_
  refine lv_iload_n hx hb dX5_addBoat_5 rfl (lv_at hl 1 rfl) ?_
  refine li_bipush hx hb dX5_addBoat_6 (by decide) ?_
  refine li_icmp_le_t (tgt := 21) hx hb dX5_addBoat_8 (by decide) (ib_i (by omega) (by omega)) (by decide) (by omega) ?_
  refine lv_iload_n hx hb dX5_addBoat_21 rfl (lv_at hl 2 rfl) ?_
  refine li_const hx hb dX5_addBoat_22 ?_
  refine li_icmp_lt_f (tgt := 32) hx hb dX5_addBoat_23 (by decide) (ib_i (by omega) (by omega)) (by decide) (by omega) ?_
  refine lv_iload_n hx hb dX5_addBoat_26 rfl (lv_at hl 2 rfl) ?_
  refine li_bipush hx hb dX5_addBoat_27 (by decide) ?_
  refine li_icmp_le_t (tgt := 42) hx hb dX5_addBoat_29 (by decide) (ib_i (by omega) (by omega)) (by decide) (by omega) ?_
  refine lv_aload_n hx hb dX5_addBoat_42 rfl (lv_at hl 0 rfl) ?_
  refine li_get (ci := 5) (v := .ref L0) (C := RX5) (T := TX5) (N := 2) (q0 := 0) (k := 0) hx hb hts hin_X5 hown hK hP rfl rfl (by decide) hf_14 rfl rfl dX5_addBoat_43 ?_
  refine li_getN (own := RX5) (ref := "LockStaircase$Ladder") (host := "LockStaircase") (index := 115) (ci := 2) (v := .ref B0) (C := RX2) (T := TX2) (N := 4) (q0 := 1) (k := 2) hx hb hts hin_X2 hown hK hP rfl rfl (by decide) hNW nw_X5_115 rfl rfl dX5_addBoat_46 ?_
  refine li_getN (own := RX5) (ref := "LockStaircase$Fleet") (host := "LockStaircase") (index := 119) (ci := 0) (v := .int (iI cnt)) (C := RX0) (T := TX0) (N := 4) (q0 := 7) (k := 3) hx hb hts hin_X0 hown hK hP rfl rfl (by decide) hNW nw_X5_119 rfl rfl dX5_addBoat_49 ?_
  refine li_bipush hx hb dX5_addBoat_52 (by decide) ?_
  refine li_icmp_lt (tgt := 67) hx hb dX5_addBoat_54 (by decide) (ib_i (by omega) (by omega)) (by decide) (fun c_54 => ?_) (fun c_54 => ?_)
  · refine lv_iload_n hx hb dX5_addBoat_67 rfl (lv_at hl 3 rfl) ?_
    refine li_if_eq (tgt := 95) hx hb dX5_addBoat_68 (by decide) (ib_i (by omega) (by omega)) (fun c_68 => ?_) (fun c_68 => ?_)
    · exfalso; omega
    · refine lv_aload_n hx hb dX5_addBoat_71 rfl (lv_at hl 0 rfl) ?_
      refine li_get (ci := 5) (v := .ref L0) (C := RX5) (T := TX5) (N := 2) (q0 := 0) (k := 0) hx hb hts hin_X5 hown hK hP rfl rfl (by decide) hf_14 rfl rfl dX5_addBoat_72 ?_
      refine li_getN (own := RX5) (ref := "LockStaircase$Ladder") (host := "LockStaircase") (index := 21) (ci := 2) (v := .ref W0) (C := RX2) (T := TX2) (N := 4) (q0 := 1) (k := 0) hx hb hts hin_X2 hown hK hP rfl rfl (by decide) hNW nw_X5_21 rfl rfl dX5_addBoat_75 ?_
      refine cl_i0 (isC := [2, 3]) (isR := [0, 1, 4, 5, 6, 7, 8, 9, 10, 11]) (isN := [0, 1, 10, 11, 2, 3, 4, 5, 6, 7, 8, 9]) (wr := cLs   S0 L0 L0t ++ cLa   L0 W0 G0 B0 P0 ++ cGa cI cZ op tn G0 G1 G2 ++ cFl cI cnt ln dr pl B0 B1 B2 B3 ++ cRp  rp P0) (wn := cLs   S0 L0 L0t ++ cLa   L0 W0 G0 B0 P0 ++ cWa cI n L a gd w W0 W1 ++ cGa cI cZ op tn G0 G1 G2 ++ cFl cI cnt ln dr pl B0 B1 B2 B3 ++ cRp  rp P0) (As := []) (rest := []) (r := w.1 / a) (ci := 4) (q0 := 0) ⟨hx, hb, hml, hown, hts⟩ (c_X4_depth n L a gd w W0 W1 (by first | assumption | omega) (by first | assumption | omega) (by first | assumption | omega) (by first | assumption | omega)) (cwV 0 hts gX5_addBoat_X4_depth rfl rfl rfl (by decide +kernel) ⟨Nat.le_of_ble_eq_true rfl, Nat.le_of_ble_eq_true rfl⟩) hK hNW hP hD hS hA rfl rfl rfl rfl (by decide) rfl rfl rfl rfl rfl rfl hl.1 rfl (Nat.le_of_ble_eq_true rfl) dX5_addBoat_78 ⟨Nat.zero_le _, Nat.zero_le _⟩ (fun H locs hP hD hS => ?_)
      refine lv_iload_n hx hb dX5_addBoat_81 rfl (lv_at hl 2 rfl) ?_
      refine li_icmp_ge (tgt := 95) hx hb dX5_addBoat_82 (by decide) (ib_i (by omega) (by omega)) (ib_i (by omega) (by omega)) (fun c_82 => ?_) (fun c_82 => ?_)
      · exfalso; omega
      · exact li_thr (text := "the pound is too shallow") hx hb hl0 63 hown (by decide +kernel) hcl_3 hci_3 hXP (by decide) (fun w hw => hts w ((show ∀ w ∈ (vx_atS RX5 67 "java/lang/IllegalStateException" thN).filter goodWord, w ∈ wsX5_addBoat by decide +kernel) w hw)) th_a3 th_b3 hS (hl.1.trans hml.symm) dX5_addBoat_85 dX5_addBoat_88 dX5_addBoat_89 dX5_addBoat_91 dX5_addBoat_94 htab (Nat.le_of_ble_eq_true rfl) (Nat.le_of_ble_eq_true rfl) (Nat.le_of_ble_eq_true rfl) (Nat.le_of_ble_eq_true rfl) hlocks hP hK hD hQ rfl rfl
  · exact li_thr (text := "there are 10 boats") hx hb hl0 63 hown (by decide +kernel) hcl_3 hci_3 hXP (by decide) (fun w hw => hts w ((show ∀ w ∈ (vx_atS RX5 67 "java/lang/IllegalStateException" thN).filter goodWord, w ∈ wsX5_addBoat by decide +kernel) w hw)) th_a3 th_b3 hS (hl.1.trans hml.symm) dX5_addBoat_57 dX5_addBoat_60 dX5_addBoat_61 dX5_addBoat_63 dX5_addBoat_66 htab (Nat.le_of_ble_eq_true rfl) (Nat.le_of_ble_eq_true rfl) (Nat.le_of_ble_eq_true rfl) (Nat.le_of_ble_eq_true rfl) hlocks hP hK hD hQ rfl rfl

set_option maxRecDepth 100000 in
set_option maxHeartbeats 4000000 in
theorem c_X5_move_no2 {l : Launch} {D : va_G} {cI cZ cJ : ClassId} (hl0 : l.stackTraces = false) (n : Int) (L : Int) (a : Int) (gd : Int) (w : Wt) (op : Int → Int) (tn : Int → Int) (cnt : Int) (ln : Int → Int) (dr : Int → Int) (pl : Int → Int) (rp : Rt) (S0 L0 W0 W1 G0 G1 G2 B0 B1 B2 B3 P0 L0t : Nat) (b : Int) (up : Int) (hn : 1 ≤ n ∧ n ≤ 6) (hL : 5 ≤ L ∧ L ≤ 40) (ha : 1 ≤ a ∧ a ≤ 50) (hw : WI n L a w) (hop : opB op) (hcnt : 0 ≤ cnt ∧ cnt ≤ 10) (hln : lnB ln) (hdr : lnB dr) (hpi : plI n pl) (hup : up = 0 ∨ up = 1) (hv : 0 ≤ b ∧ b ≤ cnt - 1) (hc : mvO n a w op cnt ln dr pl b up ≠ 0) : CT l yX5_move wsX5_move 25 [.ref S0, .int (iI b), .int (iI up)] D (ty3 cI cZ cJ) (cLs   S0 L0 L0t ++ cLa   L0 W0 G0 B0 P0 ++ cWa cI n L a gd w W0 W1 ++ cGa cI cZ op tn G0 G1 G2 ++ cFl cI cnt ln dr pl B0 B1 B2 B3 ++ cRp  rp P0) "java/lang/IllegalStateException" := by
  refine ct_x (by decide) rfl (Nat.le_of_ble_eq_true rfl) ?_
  intro p e s mI args below meth c_0 ls A hx hb hml hts hown hlocks htab hA hP hK hD hNW hXP hS hl Q hQ
  have hown : s.vm.findClass RX5 = some mI.cls := hown
  have hl : lv_has ls 3 [(0, .ref S0), (1, .int (iI b)), (2, .int (iI up))] := hl
  have hin_X5 : ∀ w ∈ wsX50, w ∈ wsX5_move := by decide +kernel
  have hcl_3 := hts (.classLink RX5 63 "java/lang/IllegalStateException") (by decide +kernel)
  have hf_14 := hts (.fieldLink RX5 14 "LockStaircase" "ladder" "LLockStaircase$Ladder;") (by decide +kernel)
  have hci_3 := hts (.initialized "java/lang/IllegalStateException") (by decide +kernel)
  refine lv_aload_n hx hb dX5_move_0 rfl (lv_at hl 0 rfl) ?_
  refine lv_iload_n hx hb dX5_move_1 rfl (lv_at hl 1 rfl) ?_
  refine cl_v0 (isC := [0, 1, 7, 8, 9, 10]) (isR := [2, 3, 4, 5, 6, 11]) (isN := [6, 7, 0, 1, 2, 3, 4, 8, 9, 10, 11, 5]) (wr := cWa cI n L a gd w W0 W1 ++ cGa cI cZ op tn G0 G1 G2 ++ cRp  rp P0) (wn := cLs   S0 L0 L0t ++ cLa   L0 W0 G0 B0 P0 ++ cWa cI n L a gd w W0 W1 ++ cGa cI cZ op tn G0 G1 G2 ++ cFl cI cnt ln dr pl B0 B1 B2 B3 ++ cRp  rp P0) (As := [.int (iI b)]) (rest := []) (ci := 5) (q0 := 0) ⟨hx, hb, hml, hown, hts⟩ (c_X5_needBoat_ok cnt ln dr pl S0 L0 B0 B1 B2 B3 L0t W0 G0 P0 b (by first | assumption | omega) (by first | assumption | omega)) (cwV 1 hts gX5_move_X5_needBoat rfl rfl rfl (by decide +kernel) ⟨Nat.le_of_ble_eq_true rfl, Nat.le_of_ble_eq_true rfl⟩) hK hNW hP hD hS hA rfl rfl rfl rfl (by decide) rfl rfl rfl rfl rfl rfl hl.1 rfl (Nat.le_of_ble_eq_true rfl) dX5_move_2 ⟨Nat.zero_le _, Nat.zero_le _⟩ (fun H locs hP hD hS => ?_)
  refine lv_aload_n hx hb dX5_move_5 rfl (lv_at hl 0 rfl) ?_
  refine li_get (ci := 5) (v := .ref L0) (C := RX5) (T := TX5) (N := 2) (q0 := 0) (k := 0) hx hb hts hin_X5 hown hK hP rfl rfl (by decide) hf_14 rfl rfl dX5_move_6 ?_
  refine lv_iload_n hx hb dX5_move_9 rfl (lv_at hl 1 rfl) ?_
  refine lv_iload_n hx hb dX5_move_10 rfl (lv_at hl 2 rfl) ?_
  refine cl_i0 (isC := [1, 2, 3, 4, 5, 6, 7, 8, 9, 10]) (isR := [0, 11]) (isN := [0, 2, 3, 4, 5, 6, 7, 8, 9, 10, 11, 1]) (wr := cLs   S0 L0 L0t ++ cRp  rp P0) (wn := cLs   S0 L0 L0t ++ cLa   L0 W0 G0 B0 P0 ++ cWa cI n L a gd w W0 W1 ++ cGa cI cZ op tn G0 G1 G2 ++ cFl cI cnt ln dr pl B0 B1 B2 B3 ++ cRp  rp P0) (As := [.int (iI b), .int (iI up)]) (rest := []) (r := mvO n a w op cnt ln dr pl b up) (ci := 2) (q0 := 0) ⟨hx, hb, hml, hown, hts⟩ (c_X2_movingObstacle n L a gd w op tn cnt ln dr pl L0 W0 W1 G0 G1 G2 B0 B1 B2 B3 P0 b up (by first | assumption | omega) (by first | assumption | omega) (by first | assumption | omega) (by first | assumption | omega) (by first | assumption | omega) (by first | assumption | omega) (by first | assumption | omega) (by first | assumption | omega) (by first | assumption | omega) (by first | assumption | omega) (by first | assumption | omega)) (cwV 2 hts gX5_move_X2_movingObstacle rfl rfl rfl (by decide +kernel) ⟨Nat.le_of_ble_eq_true rfl, Nat.le_of_ble_eq_true rfl⟩) hK hNW hP hD hS hA rfl rfl rfl rfl (by decide) rfl rfl rfl rfl rfl rfl hl.1 rfl (Nat.le_of_ble_eq_true rfl) dX5_move_11 ⟨Nat.zero_le _, Nat.zero_le _⟩ (fun H locs hP hD hS => ?_)
  have hob := mvO_b n a w op cnt ln dr pl b up
  refine li_if_eq_f (tgt := 27) hx hb dX5_move_14 (by decide) (ib_i (by omega) (by omega)) (by exact hc) ?_
  exact li_thr (text := "the boat cannot move") hx hb hl0 63 hown (by decide +kernel) hcl_3 hci_3 hXP (by decide) (fun w hw => hts w ((show ∀ w ∈ (vx_atS RX5 67 "java/lang/IllegalStateException" thN).filter goodWord, w ∈ wsX5_move by decide +kernel) w hw)) th_a3 th_b3 hS (hl.1.trans hml.symm) dX5_move_17 dX5_move_20 dX5_move_21 dX5_move_23 dX5_move_26 htab (Nat.le_of_ble_eq_true rfl) (Nat.le_of_ble_eq_true rfl) (Nat.le_of_ble_eq_true rfl) (Nat.le_of_ble_eq_true rfl) hlocks hP hK hD hQ rfl rfl
