set_option maxRecDepth 100000 in
set_option maxHeartbeats 4000000 in
theorem c_X5_needChamber_ok {l : Launch} {D : va_G} {cI cZ cJ : ClassId} (n : Int) (L : Int) (a : Int) (gd : Int) (w : Wt) (S0 L0 W0 W1 L0t G0 B0 P0 : Nat) (x : Int) (hn : 1 ≤ n ∧ n ≤ 6) (hL : 5 ≤ L ∧ L ≤ 40) (ha : 1 ≤ a ∧ a ≤ 50) (hv : 0 ≤ x ∧ x ≤ n - 1) : Dv l yX5_needChamber wsX5_needChamber 3 [.ref S0, .int (iI x)] D (ty3 cI cZ cJ) (cLs   S0 L0 L0t ++ cLa   L0 W0 G0 B0 P0 ++ cWa cI n L a gd w W0 W1) (cLs   S0 L0 L0t ++ cLa   L0 W0 G0 B0 P0 ++ cWa cI n L a gd w W0 W1) := by
  refine ct_v (plainFor_of_name (by decide)) rfl (Nat.le_of_ble_eq_true rfl) ?_
  intro p e s mI args below meth c_0 ls A hx hb hr hml hts hown hlocks hin hA hP hK hD hNW hS hl Q hQ
  have hown : s.vm.findClass RX5 = some mI.cls := hown
  have hl : lv_has ls 2 [(0, .ref S0), (1, .int (iI x))] := hl
  have hin_X2 : ∀ w ∈ wsX20, w ∈ wsX5_needChamber := by decide +kernel
  have hin_X5 : ∀ w ∈ wsX50, w ∈ wsX5_needChamber := by decide +kernel
  have hf_14 := hts (.fieldLink RX5 14 "LockStaircase" "ladder" "LLockStaircase$Ladder;") (by decide +kernel)
  refine lv_iload_n hx hb dX5_needChamber_0 rfl (lv_at hl 1 rfl) ?_
  refine li_if_lt_f (tgt := 18) hx hb dX5_needChamber_1 (by decide) (ib_i (by omega) (by omega)) (by omega) ?_
  refine lv_iload_n hx hb dX5_needChamber_4 rfl (lv_at hl 1 rfl) ?_
  refine lv_aload_n hx hb dX5_needChamber_5 rfl (lv_at hl 0 rfl) ?_
  refine li_get (ci := 5) (v := .ref L0) (C := RX5) (T := TX5) (N := 2) (q0 := 0) (k := 0) hx hb hts hin_X5 hown hK hP rfl rfl (by decide) hf_14 rfl rfl dX5_needChamber_6 ?_
  refine li_getN (own := RX5) (ref := "LockStaircase$Ladder") (host := "LockStaircase") (index := 21) (ci := 2) (v := .ref W0) (C := RX2) (T := TX2) (N := 4) (q0 := 1) (k := 0) hx hb hts hin_X2 hown hK hP rfl rfl (by decide) hNW nw_X5_21 rfl rfl dX5_needChamber_9 ?_
  refine cl_i0 (isC := [2, 3]) (isR := [0, 1]) (isN := [0, 1, 2, 3]) (wr := cLs   S0 L0 L0t ++ cLa   L0 W0 G0 B0 P0) (wn := cLs   S0 L0 L0t ++ cLa   L0 W0 G0 B0 P0 ++ cWa cI n L a gd w W0 W1) (As := []) (rest := [.int (iI x)]) (r := n) (ci := 4) (q0 := 0) ⟨hx, hb, hml, hown, hts⟩ (c_X4_count n L a gd w W0 W1 (by first | assumption | omega) (by first | assumption | omega) (by first | assumption | omega)) (cwV 0 hts gX5_needChamber_X4_count rfl rfl rfl (by decide +kernel) ⟨Nat.le_of_ble_eq_true rfl, Nat.le_of_ble_eq_true rfl⟩) hK hNW hP hD hS hA rfl rfl rfl rfl (by decide) rfl rfl rfl rfl rfl rfl hl.1 rfl (Nat.le_of_ble_eq_true rfl) dX5_needChamber_12 ⟨Nat.zero_le _, Nat.zero_le _⟩ (fun H locs hP hD hS => ?_)
  refine li_icmp_lt_t (tgt := 28) hx hb dX5_needChamber_15 (by decide) (ib_i (by omega) (by omega)) (ib_i (by omega) (by omega)) (by omega) ?_
  exact li_vret () hx hb hr hlocks hK hP hD hS dX5_needChamber_28 hQ rfl trivial

set_option maxRecDepth 100000 in
set_option maxHeartbeats 4000000 in
theorem c_X5_needGate_ok {l : Launch} {D : va_G} {cI cZ cJ : ClassId} (n : Int) (L : Int) (a : Int) (gd : Int) (w : Wt) (S0 L0 W0 W1 L0t G0 B0 P0 : Nat) (x : Int) (hn : 1 ≤ n ∧ n ≤ 6) (hL : 5 ≤ L ∧ L ≤ 40) (ha : 1 ≤ a ∧ a ≤ 50) (hv : 0 ≤ x ∧ x ≤ n) : Dv l yX5_needGate wsX5_needGate 3 [.ref S0, .int (iI x)] D (ty3 cI cZ cJ) (cLs   S0 L0 L0t ++ cLa   L0 W0 G0 B0 P0 ++ cWa cI n L a gd w W0 W1) (cLs   S0 L0 L0t ++ cLa   L0 W0 G0 B0 P0 ++ cWa cI n L a gd w W0 W1) := by
  refine ct_v (plainFor_of_name (by decide)) rfl (Nat.le_of_ble_eq_true rfl) ?_
  intro p e s mI args below meth c_0 ls A hx hb hr hml hts hown hlocks hin hA hP hK hD hNW hS hl Q hQ
  have hown : s.vm.findClass RX5 = some mI.cls := hown
  have hl : lv_has ls 2 [(0, .ref S0), (1, .int (iI x))] := hl
  have hin_X2 : ∀ w ∈ wsX20, w ∈ wsX5_needGate := by decide +kernel
  have hin_X5 : ∀ w ∈ wsX50, w ∈ wsX5_needGate := by decide +kernel
  have hf_14 := hts (.fieldLink RX5 14 "LockStaircase" "ladder" "LLockStaircase$Ladder;") (by decide +kernel)
  refine lv_iload_n hx hb dX5_needGate_0 rfl (lv_at hl 1 rfl) ?_
  refine li_if_lt_f (tgt := 18) hx hb dX5_needGate_1 (by decide) (ib_i (by omega) (by omega)) (by omega) ?_
  refine lv_iload_n hx hb dX5_needGate_4 rfl (lv_at hl 1 rfl) ?_
  refine lv_aload_n hx hb dX5_needGate_5 rfl (lv_at hl 0 rfl) ?_
  refine li_get (ci := 5) (v := .ref L0) (C := RX5) (T := TX5) (N := 2) (q0 := 0) (k := 0) hx hb hts hin_X5 hown hK hP rfl rfl (by decide) hf_14 rfl rfl dX5_needGate_6 ?_
  refine li_getN (own := RX5) (ref := "LockStaircase$Ladder") (host := "LockStaircase") (index := 21) (ci := 2) (v := .ref W0) (C := RX2) (T := TX2) (N := 4) (q0 := 1) (k := 0) hx hb hts hin_X2 hown hK hP rfl rfl (by decide) hNW nw_X5_21 rfl rfl dX5_needGate_9 ?_
  refine cl_i0 (isC := [2, 3]) (isR := [0, 1]) (isN := [0, 1, 2, 3]) (wr := cLs   S0 L0 L0t ++ cLa   L0 W0 G0 B0 P0) (wn := cLs   S0 L0 L0t ++ cLa   L0 W0 G0 B0 P0 ++ cWa cI n L a gd w W0 W1) (As := []) (rest := [.int (iI x)]) (r := n) (ci := 4) (q0 := 0) ⟨hx, hb, hml, hown, hts⟩ (c_X4_count n L a gd w W0 W1 (by first | assumption | omega) (by first | assumption | omega) (by first | assumption | omega)) (cwV 0 hts gX5_needGate_X4_count rfl rfl rfl (by decide +kernel) ⟨Nat.le_of_ble_eq_true rfl, Nat.le_of_ble_eq_true rfl⟩) hK hNW hP hD hS hA rfl rfl rfl rfl (by decide) rfl rfl rfl rfl rfl rfl hl.1 rfl (Nat.le_of_ble_eq_true rfl) dX5_needGate_12 ⟨Nat.zero_le _, Nat.zero_le _⟩ (fun H locs hP hD hS => ?_)
  refine li_icmp_le_t (tgt := 28) hx hb dX5_needGate_15 (by decide) (ib_i (by omega) (by omega)) (ib_i (by omega) (by omega)) (by omega) ?_
  exact li_vret () hx hb hr hlocks hK hP hD hS dX5_needGate_28 hQ rfl trivial

set_option maxRecDepth 100000 in
set_option maxHeartbeats 4000000 in
theorem c_X5_needBoat_ok {l : Launch} {D : va_G} {cI cZ cJ : ClassId} (cnt : Int) (ln : Int → Int) (dr : Int → Int) (pl : Int → Int) (S0 L0 B0 B1 B2 B3 L0t W0 G0 P0 : Nat) (x : Int) (hcnt : 0 ≤ cnt ∧ cnt ≤ 10) (hv : 0 ≤ x ∧ x ≤ cnt - 1) : Dv l yX5_needBoat wsX5_needBoat 3 [.ref S0, .int (iI x)] D (ty3 cI cZ cJ) (cLs   S0 L0 L0t ++ cLa   L0 W0 G0 B0 P0 ++ cFl cI cnt ln dr pl B0 B1 B2 B3) (cLs   S0 L0 L0t ++ cLa   L0 W0 G0 B0 P0 ++ cFl cI cnt ln dr pl B0 B1 B2 B3) := by
  refine ct_v (plainFor_of_name (by decide)) rfl (Nat.le_of_ble_eq_true rfl) ?_
  intro p e s mI args below meth c_0 ls A hx hb hr hml hts hown hlocks hin hA hP hK hD hNW hS hl Q hQ
  have hown : s.vm.findClass RX5 = some mI.cls := hown
  have hl : lv_has ls 2 [(0, .ref S0), (1, .int (iI x))] := hl
  have hin_X0 : ∀ w ∈ wsX00, w ∈ wsX5_needBoat := by decide +kernel
  have hin_X2 : ∀ w ∈ wsX20, w ∈ wsX5_needBoat := by decide +kernel
  have hin_X5 : ∀ w ∈ wsX50, w ∈ wsX5_needBoat := by decide +kernel
  have hf_14 := hts (.fieldLink RX5 14 "LockStaircase" "ladder" "LLockStaircase$Ladder;") (by decide +kernel)
  refine lv_iload_n hx hb dX5_needBoat_0 rfl (lv_at hl 1 rfl) ?_
  refine li_if_lt_f (tgt := 18) hx hb dX5_needBoat_1 (by decide) (ib_i (by omega) (by omega)) (by omega) ?_
  refine lv_iload_n hx hb dX5_needBoat_4 rfl (lv_at hl 1 rfl) ?_
  refine lv_aload_n hx hb dX5_needBoat_5 rfl (lv_at hl 0 rfl) ?_
  refine li_get (ci := 5) (v := .ref L0) (C := RX5) (T := TX5) (N := 2) (q0 := 0) (k := 0) hx hb hts hin_X5 hown hK hP rfl rfl (by decide) hf_14 rfl rfl dX5_needBoat_6 ?_
  refine li_getN (own := RX5) (ref := "LockStaircase$Ladder") (host := "LockStaircase") (index := 115) (ci := 2) (v := .ref B0) (C := RX2) (T := TX2) (N := 4) (q0 := 1) (k := 2) hx hb hts hin_X2 hown hK hP rfl rfl (by decide) hNW nw_X5_115 rfl rfl dX5_needBoat_9 ?_
  refine li_getN (own := RX5) (ref := "LockStaircase$Fleet") (host := "LockStaircase") (index := 119) (ci := 0) (v := .int (iI cnt)) (C := RX0) (T := TX0) (N := 4) (q0 := 2) (k := 3) hx hb hts hin_X0 hown hK hP rfl rfl (by decide) hNW nw_X5_119 rfl rfl dX5_needBoat_12 ?_
  refine li_icmp_lt_t (tgt := 28) hx hb dX5_needBoat_15 (by decide) (ib_i (by omega) (by omega)) (ib_i (by omega) (by omega)) (by omega) ?_
  exact li_vret () hx hb hr hlocks hK hP hD hS dX5_needBoat_28 hQ rfl trivial

set_option maxRecDepth 100000 in
set_option maxHeartbeats 4000000 in
theorem c_X5_chambers_ok {l : Launch} {D : va_G} {cI cZ cJ : ClassId} (n : Int) (L : Int) (a : Int) (gd : Int) (w : Wt) (op : Int → Int) (tn : Int → Int) (cnt : Int) (ln : Int → Int) (dr : Int → Int) (pl : Int → Int) (rp : Rt) (S0 L0 W0 W1 G0 G1 G2 B0 B1 B2 B3 P0 L0t : Nat) (hn : 1 ≤ n ∧ n ≤ 6) (hL : 5 ≤ L ∧ L ≤ 40) (ha : 1 ≤ a ∧ a ≤ 50) : Di l yX5_chambers wsX5_chambers 25 [.ref S0] D (ty3 cI cZ cJ) (cLs   S0 L0 L0t ++ cLa   L0 W0 G0 B0 P0 ++ cWa cI n L a gd w W0 W1 ++ cGa cI cZ op tn G0 G1 G2 ++ cFl cI cnt ln dr pl B0 B1 B2 B3 ++ cRp  rp P0) (n) (cLs   S0 L0 L0t ++ cLa   L0 W0 G0 B0 P0 ++ cWa cI n L a gd w W0 W1 ++ cGa cI cZ op tn G0 G1 G2 ++ cFl cI cnt ln dr pl B0 B1 B2 B3 ++ cRp  rp P0) := by
  refine ct_i (plainFor_of_name (by decide)) rfl (Nat.le_of_ble_eq_true rfl) ?_
  intro p e s mI args below meth c_0 ls A hx hb hr hml hts hown hlocks hin hA hP hK hD hNW hS hl Q hQ
  have hown : s.vm.findClass RX5 = some mI.cls := hown
  have hl : lv_has ls 1 [(0, .ref S0)] := hl
  have hin_X2 : ∀ w ∈ wsX20, w ∈ wsX5_chambers := by decide +kernel
  have hin_X5 : ∀ w ∈ wsX50, w ∈ wsX5_chambers := by decide +kernel
  have hf_14 := hts (.fieldLink RX5 14 "LockStaircase" "ladder" "LLockStaircase$Ladder;") (by decide +kernel)
  refine lv_aload_n hx hb dX5_chambers_0 rfl (lv_at hl 0 rfl) ?_
  refine li_get (ci := 5) (v := .ref L0) (C := RX5) (T := TX5) (N := 2) (q0 := 0) (k := 0) hx hb hts hin_X5 hown hK hP rfl rfl (by decide) hf_14 rfl rfl dX5_chambers_1 ?_
  refine li_getN (own := RX5) (ref := "LockStaircase$Ladder") (host := "LockStaircase") (index := 21) (ci := 2) (v := .ref W0) (C := RX2) (T := TX2) (N := 4) (q0 := 1) (k := 0) hx hb hts hin_X2 hown hK hP rfl rfl (by decide) hNW nw_X5_21 rfl rfl dX5_chambers_4 ?_
  refine cl_i0 (isC := [2, 3]) (isR := [0, 1, 4, 5, 6, 7, 8, 9, 10, 11]) (isN := [0, 1, 10, 11, 2, 3, 4, 5, 6, 7, 8, 9]) (wr := cLs   S0 L0 L0t ++ cLa   L0 W0 G0 B0 P0 ++ cGa cI cZ op tn G0 G1 G2 ++ cFl cI cnt ln dr pl B0 B1 B2 B3 ++ cRp  rp P0) (wn := cLs   S0 L0 L0t ++ cLa   L0 W0 G0 B0 P0 ++ cWa cI n L a gd w W0 W1 ++ cGa cI cZ op tn G0 G1 G2 ++ cFl cI cnt ln dr pl B0 B1 B2 B3 ++ cRp  rp P0) (As := []) (rest := []) (r := n) (ci := 4) (q0 := 0) ⟨hx, hb, hml, hown, hts⟩ (c_X4_count n L a gd w W0 W1 (by first | assumption | omega) (by first | assumption | omega) (by first | assumption | omega)) (cwV 0 hts gX5_chambers_X4_count rfl rfl rfl (by decide +kernel) ⟨Nat.le_of_ble_eq_true rfl, Nat.le_of_ble_eq_true rfl⟩) hK hNW hP hD hS hA rfl rfl rfl rfl (by decide) rfl rfl rfl rfl rfl rfl hl.1 rfl (Nat.le_of_ble_eq_true rfl) dX5_chambers_7 ⟨Nat.zero_le _, Nat.zero_le _⟩ (fun H locs hP hD hS => ?_)
  exact li_iret () hx hb hr hlocks hK hP hD hS dX5_chambers_10 hQ rfl (congrArg iI (rfl))

set_option maxRecDepth 100000 in
set_option maxHeartbeats 4000000 in
theorem c_X5_poundLevel_ok {l : Launch} {D : va_G} {cI cZ cJ : ClassId} (n : Int) (L : Int) (a : Int) (gd : Int) (w : Wt) (op : Int → Int) (tn : Int → Int) (cnt : Int) (ln : Int → Int) (dr : Int → Int) (pl : Int → Int) (rp : Rt) (S0 L0 W0 W1 G0 G1 G2 B0 B1 B2 B3 P0 L0t : Nat) (hn : 1 ≤ n ∧ n ≤ 6) (hL : 5 ≤ L ∧ L ≤ 40) (ha : 1 ≤ a ∧ a ≤ 50) (hw : WI n L a w) : Di l yX5_poundLevel wsX5_poundLevel 25 [.ref S0] D (ty3 cI cZ cJ) (cLs   S0 L0 L0t ++ cLa   L0 W0 G0 B0 P0 ++ cWa cI n L a gd w W0 W1 ++ cGa cI cZ op tn G0 G1 G2 ++ cFl cI cnt ln dr pl B0 B1 B2 B3 ++ cRp  rp P0) (lvA n L a w n) (cLs   S0 L0 L0t ++ cLa   L0 W0 G0 B0 P0 ++ cWa cI n L a gd w W0 W1 ++ cGa cI cZ op tn G0 G1 G2 ++ cFl cI cnt ln dr pl B0 B1 B2 B3 ++ cRp  rp P0) := by
  refine ct_i (plainFor_of_name (by decide)) rfl (Nat.le_of_ble_eq_true rfl) ?_
  intro p e s mI args below meth c_0 ls A hx hb hr hml hts hown hlocks hin hA hP hK hD hNW hS hl Q hQ
  have hown : s.vm.findClass RX5 = some mI.cls := hown
  have hl : lv_has ls 1 [(0, .ref S0)] := hl
  have hin_X2 : ∀ w ∈ wsX20, w ∈ wsX5_poundLevel := by decide +kernel
  have hin_X5 : ∀ w ∈ wsX50, w ∈ wsX5_poundLevel := by decide +kernel
  have hf_14 := hts (.fieldLink RX5 14 "LockStaircase" "ladder" "LLockStaircase$Ladder;") (by decide +kernel)
  refine lv_aload_n hx hb dX5_poundLevel_0 rfl (lv_at hl 0 rfl) ?_
  refine li_get (ci := 5) (v := .ref L0) (C := RX5) (T := TX5) (N := 2) (q0 := 0) (k := 0) hx hb hts hin_X5 hown hK hP rfl rfl (by decide) hf_14 rfl rfl dX5_poundLevel_1 ?_
  refine li_getN (own := RX5) (ref := "LockStaircase$Ladder") (host := "LockStaircase") (index := 21) (ci := 2) (v := .ref W0) (C := RX2) (T := TX2) (N := 4) (q0 := 1) (k := 0) hx hb hts hin_X2 hown hK hP rfl rfl (by decide) hNW nw_X5_21 rfl rfl dX5_poundLevel_4 ?_
  refine lv_aload_n hx hb dX5_poundLevel_7 rfl (lv_at hl 0 rfl) ?_
  refine li_get (ci := 5) (v := .ref L0) (C := RX5) (T := TX5) (N := 2) (q0 := 0) (k := 0) hx hb hts hin_X5 hown hK hP rfl rfl (by decide) hf_14 rfl rfl dX5_poundLevel_8 ?_
  refine li_getN (own := RX5) (ref := "LockStaircase$Ladder") (host := "LockStaircase") (index := 21) (ci := 2) (v := .ref W0) (C := RX2) (T := TX2) (N := 4) (q0 := 1) (k := 0) hx hb hts hin_X2 hown hK hP rfl rfl (by decide) hNW nw_X5_21 rfl rfl dX5_poundLevel_11 ?_
  refine cl_i0 (isC := [2, 3]) (isR := [0, 1, 4, 5, 6, 7, 8, 9, 10, 11]) (isN := [0, 1, 10, 11, 2, 3, 4, 5, 6, 7, 8, 9]) (wr := cLs   S0 L0 L0t ++ cLa   L0 W0 G0 B0 P0 ++ cGa cI cZ op tn G0 G1 G2 ++ cFl cI cnt ln dr pl B0 B1 B2 B3 ++ cRp  rp P0) (wn := cLs   S0 L0 L0t ++ cLa   L0 W0 G0 B0 P0 ++ cWa cI n L a gd w W0 W1 ++ cGa cI cZ op tn G0 G1 G2 ++ cFl cI cnt ln dr pl B0 B1 B2 B3 ++ cRp  rp P0) (As := []) (rest := [.ref W0]) (r := n) (ci := 4) (q0 := 0) ⟨hx, hb, hml, hown, hts⟩ (c_X4_count n L a gd w W0 W1 (by first | assumption | omega) (by first | assumption | omega) (by first | assumption | omega)) (cwV 0 hts gX5_poundLevel_X4_count rfl rfl rfl (by decide +kernel) ⟨Nat.le_of_ble_eq_true rfl, Nat.le_of_ble_eq_true rfl⟩) hK hNW hP hD hS hA rfl rfl rfl rfl (by decide) rfl rfl rfl rfl rfl rfl hl.1 rfl (Nat.le_of_ble_eq_true rfl) dX5_poundLevel_14 ⟨Nat.zero_le _, Nat.zero_le _⟩ (fun H locs hP hD hS => ?_)
  refine cl_i0 (isC := [2, 3]) (isR := [0, 1, 4, 5, 6, 7, 8, 9, 10, 11]) (isN := [0, 1, 10, 11, 2, 3, 4, 5, 6, 7, 8, 9]) (wr := cLs   S0 L0 L0t ++ cLa   L0 W0 G0 B0 P0 ++ cGa cI cZ op tn G0 G1 G2 ++ cFl cI cnt ln dr pl B0 B1 B2 B3 ++ cRp  rp P0) (wn := cLs   S0 L0 L0t ++ cLa   L0 W0 G0 B0 P0 ++ cWa cI n L a gd w W0 W1 ++ cGa cI cZ op tn G0 G1 G2 ++ cFl cI cnt ln dr pl B0 B1 B2 B3 ++ cRp  rp P0) (As := [.int (iI n)]) (rest := []) (r := lvA n L a w n) (ci := 4) (q0 := 0) ⟨hx, hb, hml, hown, hts⟩ (c_X4_levelAt n L a gd w W0 W1 n (by first | assumption | omega) (by first | assumption | omega) (by first | assumption | omega) (by first | assumption | omega) (by first | assumption | omega)) (cwV 1 hts gX5_poundLevel_X4_levelAt rfl rfl rfl (by decide +kernel) ⟨Nat.le_of_ble_eq_true rfl, Nat.le_of_ble_eq_true rfl⟩) hK hNW hP hD hS hA rfl rfl rfl rfl (by decide) rfl rfl rfl rfl rfl rfl hl.1 rfl (Nat.le_of_ble_eq_true rfl) dX5_poundLevel_17 ⟨Nat.zero_le _, Nat.zero_le _⟩ (fun H locs hP hD hS => ?_)
  exact li_iret () hx hb hr hlocks hK hP hD hS dX5_poundLevel_20 hQ rfl (congrArg iI (rfl))

set_option maxRecDepth 100000 in
set_option maxHeartbeats 4000000 in
theorem c_X5_poundDepth_ok {l : Launch} {D : va_G} {cI cZ cJ : ClassId} (n : Int) (L : Int) (a : Int) (gd : Int) (w : Wt) (op : Int → Int) (tn : Int → Int) (cnt : Int) (ln : Int → Int) (dr : Int → Int) (pl : Int → Int) (rp : Rt) (S0 L0 W0 W1 G0 G1 G2 B0 B1 B2 B3 P0 L0t : Nat) (hn : 1 ≤ n ∧ n ≤ 6) (hL : 5 ≤ L ∧ L ≤ 40) (ha : 1 ≤ a ∧ a ≤ 50) (hw : WI n L a w) : Di l yX5_poundDepth wsX5_poundDepth 25 [.ref S0] D (ty3 cI cZ cJ) (cLs   S0 L0 L0t ++ cLa   L0 W0 G0 B0 P0 ++ cWa cI n L a gd w W0 W1 ++ cGa cI cZ op tn G0 G1 G2 ++ cFl cI cnt ln dr pl B0 B1 B2 B3 ++ cRp  rp P0) (w.1 / a) (cLs   S0 L0 L0t ++ cLa   L0 W0 G0 B0 P0 ++ cWa cI n L a gd w W0 W1 ++ cGa cI cZ op tn G0 G1 G2 ++ cFl cI cnt ln dr pl B0 B1 B2 B3 ++ cRp  rp P0) := by
  refine ct_i (plainFor_of_name (by decide)) rfl (Nat.le_of_ble_eq_true rfl) ?_
  intro p e s mI args below meth c_0 ls A hx hb hr hml hts hown hlocks hin hA hP hK hD hNW hS hl Q hQ
  have hown : s.vm.findClass RX5 = some mI.cls := hown
  have hl : lv_has ls 1 [(0, .ref S0)] := hl
  have hin_X2 : ∀ w ∈ wsX20, w ∈ wsX5_poundDepth := by decide +kernel
  have hin_X5 : ∀ w ∈ wsX50, w ∈ wsX5_poundDepth := by decide +kernel
  have hf_14 := hts (.fieldLink RX5 14 "LockStaircase" "ladder" "LLockStaircase$Ladder;") (by decide +kernel)
  refine lv_aload_n hx hb dX5_poundDepth_0 rfl (lv_at hl 0 rfl) ?_
  refine li_get (ci := 5) (v := .ref L0) (C := RX5) (T := TX5) (N := 2) (q0 := 0) (k := 0) hx hb hts hin_X5 hown hK hP rfl rfl (by decide) hf_14 rfl rfl dX5_poundDepth_1 ?_
  refine li_getN (own := RX5) (ref := "LockStaircase$Ladder") (host := "LockStaircase") (index := 21) (ci := 2) (v := .ref W0) (C := RX2) (T := TX2) (N := 4) (q0 := 1) (k := 0) hx hb hts hin_X2 hown hK hP rfl rfl (by decide) hNW nw_X5_21 rfl rfl dX5_poundDepth_4 ?_
  refine cl_i0 (isC := [2, 3]) (isR := [0, 1, 4, 5, 6, 7, 8, 9, 10, 11]) (isN := [0, 1, 10, 11, 2, 3, 4, 5, 6, 7, 8, 9]) (wr := cLs   S0 L0 L0t ++ cLa   L0 W0 G0 B0 P0 ++ cGa cI cZ op tn G0 G1 G2 ++ cFl cI cnt ln dr pl B0 B1 B2 B3 ++ cRp  rp P0) (wn := cLs   S0 L0 L0t ++ cLa   L0 W0 G0 B0 P0 ++ cWa cI n L a gd w W0 W1 ++ cGa cI cZ op tn G0 G1 G2 ++ cFl cI cnt ln dr pl B0 B1 B2 B3 ++ cRp  rp P0) (As := []) (rest := []) (r := w.1 / a) (ci := 4) (q0 := 0) ⟨hx, hb, hml, hown, hts⟩ (c_X4_depth n L a gd w W0 W1 (by first | assumption | omega) (by first | assumption | omega) (by first | assumption | omega) (by first | assumption | omega)) (cwV 0 hts gX5_poundDepth_X4_depth rfl rfl rfl (by decide +kernel) ⟨Nat.le_of_ble_eq_true rfl, Nat.le_of_ble_eq_true rfl⟩) hK hNW hP hD hS hA rfl rfl rfl rfl (by decide) rfl rfl rfl rfl rfl rfl hl.1 rfl (Nat.le_of_ble_eq_true rfl) dX5_poundDepth_7 ⟨Nat.zero_le _, Nat.zero_le _⟩ (fun H locs hP hD hS => ?_)
  exact li_iret () hx hb hr hlocks hK hP hD hS dX5_poundDepth_10 hQ rfl (congrArg iI (rfl))

set_option maxRecDepth 100000 in
set_option maxHeartbeats 4000000 in
theorem c_X5_poundWater_ok {l : Launch} {D : va_G} {cI cZ cJ : ClassId} (n : Int) (L : Int) (a : Int) (gd : Int) (w : Wt) (op : Int → Int) (tn : Int → Int) (cnt : Int) (ln : Int → Int) (dr : Int → Int) (pl : Int → Int) (rp : Rt) (S0 L0 W0 W1 G0 G1 G2 B0 B1 B2 B3 P0 L0t : Nat)  : Di l yX5_poundWater wsX5_poundWater 25 [.ref S0] D (ty3 cI cZ cJ) (cLs   S0 L0 L0t ++ cLa   L0 W0 G0 B0 P0 ++ cWa cI n L a gd w W0 W1 ++ cGa cI cZ op tn G0 G1 G2 ++ cFl cI cnt ln dr pl B0 B1 B2 B3 ++ cRp  rp P0) (w.1) (cLs   S0 L0 L0t ++ cLa   L0 W0 G0 B0 P0 ++ cWa cI n L a gd w W0 W1 ++ cGa cI cZ op tn G0 G1 G2 ++ cFl cI cnt ln dr pl B0 B1 B2 B3 ++ cRp  rp P0) := by
  refine ct_i (plainFor_of_name (by decide)) rfl (Nat.le_of_ble_eq_true rfl) ?_
  intro p e s mI args below meth c_0 ls A hx hb hr hml hts hown hlocks hin hA hP hK hD hNW hS hl Q hQ
  have hown : s.vm.findClass RX5 = some mI.cls := hown
  have hl : lv_has ls 1 [(0, .ref S0)] := hl
  have hin_X2 : ∀ w ∈ wsX20, w ∈ wsX5_poundWater := by decide +kernel
  have hin_X4 : ∀ w ∈ wsX40, w ∈ wsX5_poundWater := by decide +kernel
  have hin_X5 : ∀ w ∈ wsX50, w ∈ wsX5_poundWater := by decide +kernel
  have hf_14 := hts (.fieldLink RX5 14 "LockStaircase" "ladder" "LLockStaircase$Ladder;") (by decide +kernel)
  refine lv_aload_n hx hb dX5_poundWater_0 rfl (lv_at hl 0 rfl) ?_
  refine li_get (ci := 5) (v := .ref L0) (C := RX5) (T := TX5) (N := 2) (q0 := 0) (k := 0) hx hb hts hin_X5 hown hK hP rfl rfl (by decide) hf_14 rfl rfl dX5_poundWater_1 ?_
  refine li_getN (own := RX5) (ref := "LockStaircase$Ladder") (host := "LockStaircase") (index := 21) (ci := 2) (v := .ref W0) (C := RX2) (T := TX2) (N := 4) (q0 := 1) (k := 0) hx hb hts hin_X2 hown hK hP rfl rfl (by decide) hNW nw_X5_21 rfl rfl dX5_poundWater_4 ?_
  refine li_getN (own := RX5) (ref := "LockStaircase$Water") (host := "LockStaircase") (index := 42) (ci := 4) (v := .int (iI w.1)) (C := RX4) (T := TX4) (N := 8) (q0 := 2) (k := 4) hx hb hts hin_X4 hown hK hP rfl rfl (by decide) hNW nw_X5_42 rfl rfl dX5_poundWater_7 ?_
  exact li_iret () hx hb hr hlocks hK hP hD hS dX5_poundWater_10 hQ rfl (congrArg iI (rfl))

set_option maxRecDepth 100000 in
set_option maxHeartbeats 4000000 in
theorem c_X5_clock_ok {l : Launch} {D : va_G} {cI cZ cJ : ClassId} (n : Int) (L : Int) (a : Int) (gd : Int) (w : Wt) (op : Int → Int) (tn : Int → Int) (cnt : Int) (ln : Int → Int) (dr : Int → Int) (pl : Int → Int) (rp : Rt) (S0 L0 W0 W1 G0 G1 G2 B0 B1 B2 B3 P0 L0t : Nat)  : Di l yX5_clock wsX5_clock 25 [.ref S0] D (ty3 cI cZ cJ) (cLs   S0 L0 L0t ++ cLa   L0 W0 G0 B0 P0 ++ cWa cI n L a gd w W0 W1 ++ cGa cI cZ op tn G0 G1 G2 ++ cFl cI cnt ln dr pl B0 B1 B2 B3 ++ cRp  rp P0) (w.2.2.1) (cLs   S0 L0 L0t ++ cLa   L0 W0 G0 B0 P0 ++ cWa cI n L a gd w W0 W1 ++ cGa cI cZ op tn G0 G1 G2 ++ cFl cI cnt ln dr pl B0 B1 B2 B3 ++ cRp  rp P0) := by
  refine ct_i (plainFor_of_name (by decide)) rfl (Nat.le_of_ble_eq_true rfl) ?_
  intro p e s mI args below meth c_0 ls A hx hb hr hml hts hown hlocks hin hA hP hK hD hNW hS hl Q hQ
  have hown : s.vm.findClass RX5 = some mI.cls := hown
  have hl : lv_has ls 1 [(0, .ref S0)] := hl
  have hin_X2 : ∀ w ∈ wsX20, w ∈ wsX5_clock := by decide +kernel
  have hin_X4 : ∀ w ∈ wsX40, w ∈ wsX5_clock := by decide +kernel
  have hin_X5 : ∀ w ∈ wsX50, w ∈ wsX5_clock := by decide +kernel
  have hf_14 := hts (.fieldLink RX5 14 "LockStaircase" "ladder" "LLockStaircase$Ladder;") (by decide +kernel)
  refine lv_aload_n hx hb dX5_clock_0 rfl (lv_at hl 0 rfl) ?_
  refine li_get (ci := 5) (v := .ref L0) (C := RX5) (T := TX5) (N := 2) (q0 := 0) (k := 0) hx hb hts hin_X5 hown hK hP rfl rfl (by decide) hf_14 rfl rfl dX5_clock_1 ?_
  refine li_getN (own := RX5) (ref := "LockStaircase$Ladder") (host := "LockStaircase") (index := 21) (ci := 2) (v := .ref W0) (C := RX2) (T := TX2) (N := 4) (q0 := 1) (k := 0) hx hb hts hin_X2 hown hK hP rfl rfl (by decide) hNW nw_X5_21 rfl rfl dX5_clock_4 ?_
  refine li_getN (own := RX5) (ref := "LockStaircase$Water") (host := "LockStaircase") (index := 108) (ci := 4) (v := .int (iI w.2.2.1)) (C := RX4) (T := TX4) (N := 8) (q0 := 2) (k := 7) hx hb hts hin_X4 hown hK hP rfl rfl (by decide) hNW nw_X5_108 rfl rfl dX5_clock_7 ?_
  exact li_iret () hx hb hr hlocks hK hP hD hS dX5_clock_10 hQ rfl (congrArg iI (rfl))

set_option maxRecDepth 100000 in
set_option maxHeartbeats 4000000 in
theorem c_X5_boatCount_ok {l : Launch} {D : va_G} {cI cZ cJ : ClassId} (n : Int) (L : Int) (a : Int) (gd : Int) (w : Wt) (op : Int → Int) (tn : Int → Int) (cnt : Int) (ln : Int → Int) (dr : Int → Int) (pl : Int → Int) (rp : Rt) (S0 L0 W0 W1 G0 G1 G2 B0 B1 B2 B3 P0 L0t : Nat)  : Di l yX5_boatCount wsX5_boatCount 25 [.ref S0] D (ty3 cI cZ cJ) (cLs   S0 L0 L0t ++ cLa   L0 W0 G0 B0 P0 ++ cWa cI n L a gd w W0 W1 ++ cGa cI cZ op tn G0 G1 G2 ++ cFl cI cnt ln dr pl B0 B1 B2 B3 ++ cRp  rp P0) (cnt) (cLs   S0 L0 L0t ++ cLa   L0 W0 G0 B0 P0 ++ cWa cI n L a gd w W0 W1 ++ cGa cI cZ op tn G0 G1 G2 ++ cFl cI cnt ln dr pl B0 B1 B2 B3 ++ cRp  rp P0) := by
  refine ct_i (plainFor_of_name (by decide)) rfl (Nat.le_of_ble_eq_true rfl) ?_
  intro p e s mI args below meth c_0 ls A hx hb hr hml hts hown hlocks hin hA hP hK hD hNW hS hl Q hQ
  have hown : s.vm.findClass RX5 = some mI.cls := hown
  have hl : lv_has ls 1 [(0, .ref S0)] := hl
  have hin_X0 : ∀ w ∈ wsX00, w ∈ wsX5_boatCount := by decide +kernel
  have hin_X2 : ∀ w ∈ wsX20, w ∈ wsX5_boatCount := by decide +kernel
  have hin_X5 : ∀ w ∈ wsX50, w ∈ wsX5_boatCount := by decide +kernel
  have hf_14 := hts (.fieldLink RX5 14 "LockStaircase" "ladder" "LLockStaircase$Ladder;") (by decide +kernel)
  refine lv_aload_n hx hb dX5_boatCount_0 rfl (lv_at hl 0 rfl) ?_
  refine li_get (ci := 5) (v := .ref L0) (C := RX5) (T := TX5) (N := 2) (q0 := 0) (k := 0) hx hb hts hin_X5 hown hK hP rfl rfl (by decide) hf_14 rfl rfl dX5_boatCount_1 ?_
  refine li_getN (own := RX5) (ref := "LockStaircase$Ladder") (host := "LockStaircase") (index := 115) (ci := 2) (v := .ref B0) (C := RX2) (T := TX2) (N := 4) (q0 := 1) (k := 2) hx hb hts hin_X2 hown hK hP rfl rfl (by decide) hNW nw_X5_115 rfl rfl dX5_boatCount_4 ?_
  refine li_getN (own := RX5) (ref := "LockStaircase$Fleet") (host := "LockStaircase") (index := 119) (ci := 0) (v := .int (iI cnt)) (C := RX0) (T := TX0) (N := 4) (q0 := 7) (k := 3) hx hb hts hin_X0 hown hK hP rfl rfl (by decide) hNW nw_X5_119 rfl rfl dX5_boatCount_7 ?_
  exact li_iret () hx hb hr hlocks hK hP hD hS dX5_boatCount_10 hQ rfl (congrArg iI (rfl))

set_option maxRecDepth 100000 in
set_option maxHeartbeats 4000000 in
theorem c_X5_reportLength_ok {l : Launch} {D : va_G} {cI cZ cJ : ClassId} (n : Int) (L : Int) (a : Int) (gd : Int) (w : Wt) (op : Int → Int) (tn : Int → Int) (cnt : Int) (ln : Int → Int) (dr : Int → Int) (pl : Int → Int) (rp : Rt) (S0 L0 W0 W1 G0 G1 G2 B0 B1 B2 B3 P0 L0t : Nat) (hrp : RI rp) : Di l yX5_reportLength wsX5_reportLength 25 [.ref S0] D (ty3 cI cZ cJ) (cLs   S0 L0 L0t ++ cLa   L0 W0 G0 B0 P0 ++ cWa cI n L a gd w W0 W1 ++ cGa cI cZ op tn G0 G1 G2 ++ cFl cI cnt ln dr pl B0 B1 B2 B3 ++ cRp  rp P0) (rpS rp) (cLs   S0 L0 L0t ++ cLa   L0 W0 G0 B0 P0 ++ cWa cI n L a gd w W0 W1 ++ cGa cI cZ op tn G0 G1 G2 ++ cFl cI cnt ln dr pl B0 B1 B2 B3 ++ cRp  rp P0) := by
  refine ct_i (plainFor_of_name (by decide)) rfl (Nat.le_of_ble_eq_true rfl) ?_
  intro p e s mI args below meth c_0 ls A hx hb hr hml hts hown hlocks hin hA hP hK hD hNW hS hl Q hQ
  have hown : s.vm.findClass RX5 = some mI.cls := hown
  have hl : lv_has ls 1 [(0, .ref S0)] := hl
  have hin_X2 : ∀ w ∈ wsX20, w ∈ wsX5_reportLength := by decide +kernel
  have hin_X5 : ∀ w ∈ wsX50, w ∈ wsX5_reportLength := by decide +kernel
  have hf_14 := hts (.fieldLink RX5 14 "LockStaircase" "ladder" "LLockStaircase$Ladder;") (by decide +kernel)
  refine lv_aload_n hx hb dX5_reportLength_0 rfl (lv_at hl 0 rfl) ?_
  refine li_get (ci := 5) (v := .ref L0) (C := RX5) (T := TX5) (N := 2) (q0 := 0) (k := 0) hx hb hts hin_X5 hown hK hP rfl rfl (by decide) hf_14 rfl rfl dX5_reportLength_1 ?_
  refine li_getN (own := RX5) (ref := "LockStaircase$Ladder") (host := "LockStaircase") (index := 166) (ci := 2) (v := .ref P0) (C := RX2) (T := TX2) (N := 4) (q0 := 1) (k := 3) hx hb hts hin_X2 hown hK hP rfl rfl (by decide) hNW nw_X5_166 rfl rfl dX5_reportLength_4 ?_
  refine cl_i0 (isC := [11]) (isR := [0, 1, 2, 3, 4, 5, 6, 7, 8, 9, 10]) (isN := [0, 1, 2, 3, 4, 5, 6, 7, 8, 9, 10, 11]) (wr := cLs   S0 L0 L0t ++ cLa   L0 W0 G0 B0 P0 ++ cWa cI n L a gd w W0 W1 ++ cGa cI cZ op tn G0 G1 G2 ++ cFl cI cnt ln dr pl B0 B1 B2 B3) (wn := cLs   S0 L0 L0t ++ cLa   L0 W0 G0 B0 P0 ++ cWa cI n L a gd w W0 W1 ++ cGa cI cZ op tn G0 G1 G2 ++ cFl cI cnt ln dr pl B0 B1 B2 B3 ++ cRp  rp P0) (As := []) (rest := []) (r := rpS rp) (ci := 3) (q0 := 0) ⟨hx, hb, hml, hown, hts⟩ (c_X3_size rp P0 (by first | assumption | omega)) (cwV 0 hts gX5_reportLength_X3_size rfl rfl rfl (by decide +kernel) ⟨Nat.le_of_ble_eq_true rfl, Nat.le_of_ble_eq_true rfl⟩) hK hNW hP hD hS hA rfl rfl rfl rfl (by decide) rfl rfl rfl rfl rfl rfl hl.1 rfl (Nat.le_of_ble_eq_true rfl) dX5_reportLength_7 ⟨Nat.zero_le _, Nat.zero_le _⟩ (fun H locs hP hD hS => ?_)
  exact li_iret () hx hb hr hlocks hK hP hD hS dX5_reportLength_10 hQ rfl (congrArg iI (rfl))

set_option maxRecDepth 100000 in
set_option maxHeartbeats 4000000 in
theorem c_X5_lostWater_ok {l : Launch} {D : va_G} {cI cZ cJ : ClassId} (n : Int) (L : Int) (a : Int) (gd : Int) (w : Wt) (op : Int → Int) (tn : Int → Int) (cnt : Int) (ln : Int → Int) (dr : Int → Int) (pl : Int → Int) (rp : Rt) (S0 L0 W0 W1 G0 G1 G2 B0 B1 B2 B3 P0 L0t : Nat)  : Di l yX5_lostWater wsX5_lostWater 25 [.ref S0] D (ty3 cI cZ cJ) (cLs   S0 L0 L0t ++ cLa   L0 W0 G0 B0 P0 ++ cWa cI n L a gd w W0 W1 ++ cGa cI cZ op tn G0 G1 G2 ++ cFl cI cnt ln dr pl B0 B1 B2 B3 ++ cRp  rp P0) (w.2.1) (cLs   S0 L0 L0t ++ cLa   L0 W0 G0 B0 P0 ++ cWa cI n L a gd w W0 W1 ++ cGa cI cZ op tn G0 G1 G2 ++ cFl cI cnt ln dr pl B0 B1 B2 B3 ++ cRp  rp P0) := by
  refine ct_i (plainFor_of_name (by decide)) rfl (Nat.le_of_ble_eq_true rfl) ?_
  intro p e s mI args below meth c_0 ls A hx hb hr hml hts hown hlocks hin hA hP hK hD hNW hS hl Q hQ
  have hown : s.vm.findClass RX5 = some mI.cls := hown
  have hl : lv_has ls 1 [(0, .ref S0)] := hl
  have hin_X2 : ∀ w ∈ wsX20, w ∈ wsX5_lostWater := by decide +kernel
  have hin_X4 : ∀ w ∈ wsX40, w ∈ wsX5_lostWater := by decide +kernel
  have hin_X5 : ∀ w ∈ wsX50, w ∈ wsX5_lostWater := by decide +kernel
  have hf_14 := hts (.fieldLink RX5 14 "LockStaircase" "ladder" "LLockStaircase$Ladder;") (by decide +kernel)
  refine lv_aload_n hx hb dX5_lostWater_0 rfl (lv_at hl 0 rfl) ?_
  refine li_get (ci := 5) (v := .ref L0) (C := RX5) (T := TX5) (N := 2) (q0 := 0) (k := 0) hx hb hts hin_X5 hown hK hP rfl rfl (by decide) hf_14 rfl rfl dX5_lostWater_1 ?_
  refine li_getN (own := RX5) (ref := "LockStaircase$Ladder") (host := "LockStaircase") (index := 21) (ci := 2) (v := .ref W0) (C := RX2) (T := TX2) (N := 4) (q0 := 1) (k := 0) hx hb hts hin_X2 hown hK hP rfl rfl (by decide) hNW nw_X5_21 rfl rfl dX5_lostWater_4 ?_
  refine li_getN (own := RX5) (ref := "LockStaircase$Water") (host := "LockStaircase") (index := 185) (ci := 4) (v := .int (iI w.2.1)) (C := RX4) (T := TX4) (N := 8) (q0 := 2) (k := 5) hx hb hts hin_X4 hown hK hP rfl rfl (by decide) hNW nw_X5_185 rfl rfl dX5_lostWater_7 ?_
  exact li_iret () hx hb hr hlocks hK hP hD hS dX5_lostWater_10 hQ rfl (congrArg iI (rfl))

set_option maxRecDepth 100000 in
set_option maxHeartbeats 4000000 in
theorem c_X5_reportKind_ok {l : Launch} {D : va_G} {cI cZ cJ : ClassId} (n : Int) (L : Int) (a : Int) (gd : Int) (w : Wt) (op : Int → Int) (tn : Int → Int) (cnt : Int) (ln : Int → Int) (dr : Int → Int) (pl : Int → Int) (rp : Rt) (S0 L0 W0 W1 G0 G1 G2 B0 B1 B2 B3 P0 L0t : Nat) (x : Int) (hrp : RI rp) (i_x : -2147483648 ≤ x ∧ x < 2147483648) : Di l yX5_reportKind wsX5_reportKind 25 [.ref S0, .int (iI x)] D (ty3 cI cZ cJ) (cLs   S0 L0 L0t ++ cLa   L0 W0 G0 B0 P0 ++ cWa cI n L a gd w W0 W1 ++ cGa cI cZ op tn G0 G1 G2 ++ cFl cI cnt ln dr pl B0 B1 B2 B3 ++ cRp  rp P0) (rpK rp x) (cLs   S0 L0 L0t ++ cLa   L0 W0 G0 B0 P0 ++ cWa cI n L a gd w W0 W1 ++ cGa cI cZ op tn G0 G1 G2 ++ cFl cI cnt ln dr pl B0 B1 B2 B3 ++ cRp  rp P0) := by
  refine ct_i (plainFor_of_name (by decide)) rfl (Nat.le_of_ble_eq_true rfl) ?_
  intro p e s mI args below meth c_0 ls A hx hb hr hml hts hown hlocks hin hA hP hK hD hNW hS hl Q hQ
  have hown : s.vm.findClass RX5 = some mI.cls := hown
  have hl : lv_has ls 2 [(0, .ref S0), (1, .int (iI x))] := hl
  have hin_X2 : ∀ w ∈ wsX20, w ∈ wsX5_reportKind := by decide +kernel
  have hin_X5 : ∀ w ∈ wsX50, w ∈ wsX5_reportKind := by decide +kernel
  have hf_14 := hts (.fieldLink RX5 14 "LockStaircase" "ladder" "LLockStaircase$Ladder;") (by decide +kernel)
  refine lv_aload_n hx hb dX5_reportKind_0 rfl (lv_at hl 0 rfl) ?_
  refine li_get (ci := 5) (v := .ref L0) (C := RX5) (T := TX5) (N := 2) (q0 := 0) (k := 0) hx hb hts hin_X5 hown hK hP rfl rfl (by decide) hf_14 rfl rfl dX5_reportKind_1 ?_
  refine li_getN (own := RX5) (ref := "LockStaircase$Ladder") (host := "LockStaircase") (index := 166) (ci := 2) (v := .ref P0) (C := RX2) (T := TX2) (N := 4) (q0 := 1) (k := 3) hx hb hts hin_X2 hown hK hP rfl rfl (by decide) hNW nw_X5_166 rfl rfl dX5_reportKind_4 ?_
  refine lv_iload_n hx hb dX5_reportKind_7 rfl (lv_at hl 1 rfl) ?_
  refine cl_i0 (isC := [11]) (isR := [0, 1, 2, 3, 4, 5, 6, 7, 8, 9, 10]) (isN := [0, 1, 2, 3, 4, 5, 6, 7, 8, 9, 10, 11]) (wr := cLs   S0 L0 L0t ++ cLa   L0 W0 G0 B0 P0 ++ cWa cI n L a gd w W0 W1 ++ cGa cI cZ op tn G0 G1 G2 ++ cFl cI cnt ln dr pl B0 B1 B2 B3) (wn := cLs   S0 L0 L0t ++ cLa   L0 W0 G0 B0 P0 ++ cWa cI n L a gd w W0 W1 ++ cGa cI cZ op tn G0 G1 G2 ++ cFl cI cnt ln dr pl B0 B1 B2 B3 ++ cRp  rp P0) (As := [.int (iI x)]) (rest := []) (r := rpK rp x) (ci := 3) (q0 := 0) ⟨hx, hb, hml, hown, hts⟩ (c_X3_kindOf rp P0 x (by first | assumption | omega) (by first | assumption | omega)) (cwV 1 hts gX5_reportKind_X3_kindOf rfl rfl rfl (by decide +kernel) ⟨Nat.le_of_ble_eq_true rfl, Nat.le_of_ble_eq_true rfl⟩) hK hNW hP hD hS hA rfl rfl rfl rfl (by decide) rfl rfl rfl rfl rfl rfl hl.1 rfl (Nat.le_of_ble_eq_true rfl) dX5_reportKind_8 ⟨Nat.zero_le _, Nat.zero_le _⟩ (fun H locs hP hD hS => ?_)
  exact li_iret () hx hb hr hlocks hK hP hD hS dX5_reportKind_11 hQ rfl (congrArg iI (rfl))

set_option maxRecDepth 100000 in
set_option maxHeartbeats 4000000 in
theorem c_X5_reportNumber_ok {l : Launch} {D : va_G} {cI cZ cJ : ClassId} (n : Int) (L : Int) (a : Int) (gd : Int) (w : Wt) (op : Int → Int) (tn : Int → Int) (cnt : Int) (ln : Int → Int) (dr : Int → Int) (pl : Int → Int) (rp : Rt) (S0 L0 W0 W1 G0 G1 G2 B0 B1 B2 B3 P0 L0t : Nat) (x : Int) (hrp : RI rp) (i_x : -2147483648 ≤ x ∧ x < 2147483648) : Di l yX5_reportNumber wsX5_reportNumber 25 [.ref S0, .int (iI x)] D (ty3 cI cZ cJ) (cLs   S0 L0 L0t ++ cLa   L0 W0 G0 B0 P0 ++ cWa cI n L a gd w W0 W1 ++ cGa cI cZ op tn G0 G1 G2 ++ cFl cI cnt ln dr pl B0 B1 B2 B3 ++ cRp  rp P0) (rpN rp x) (cLs   S0 L0 L0t ++ cLa   L0 W0 G0 B0 P0 ++ cWa cI n L a gd w W0 W1 ++ cGa cI cZ op tn G0 G1 G2 ++ cFl cI cnt ln dr pl B0 B1 B2 B3 ++ cRp  rp P0) := by
  refine ct_i (plainFor_of_name (by decide)) rfl (Nat.le_of_ble_eq_true rfl) ?_
  intro p e s mI args below meth c_0 ls A hx hb hr hml hts hown hlocks hin hA hP hK hD hNW hS hl Q hQ
  have hown : s.vm.findClass RX5 = some mI.cls := hown
  have hl : lv_has ls 2 [(0, .ref S0), (1, .int (iI x))] := hl
  have hin_X2 : ∀ w ∈ wsX20, w ∈ wsX5_reportNumber := by decide +kernel
  have hin_X5 : ∀ w ∈ wsX50, w ∈ wsX5_reportNumber := by decide +kernel
  have hf_14 := hts (.fieldLink RX5 14 "LockStaircase" "ladder" "LLockStaircase$Ladder;") (by decide +kernel)
  refine lv_aload_n hx hb dX5_reportNumber_0 rfl (lv_at hl 0 rfl) ?_
  refine li_get (ci := 5) (v := .ref L0) (C := RX5) (T := TX5) (N := 2) (q0 := 0) (k := 0) hx hb hts hin_X5 hown hK hP rfl rfl (by decide) hf_14 rfl rfl dX5_reportNumber_1 ?_
  refine li_getN (own := RX5) (ref := "LockStaircase$Ladder") (host := "LockStaircase") (index := 166) (ci := 2) (v := .ref P0) (C := RX2) (T := TX2) (N := 4) (q0 := 1) (k := 3) hx hb hts hin_X2 hown hK hP rfl rfl (by decide) hNW nw_X5_166 rfl rfl dX5_reportNumber_4 ?_
  refine lv_iload_n hx hb dX5_reportNumber_7 rfl (lv_at hl 1 rfl) ?_
  refine cl_i0 (isC := [11]) (isR := [0, 1, 2, 3, 4, 5, 6, 7, 8, 9, 10]) (isN := [0, 1, 2, 3, 4, 5, 6, 7, 8, 9, 10, 11]) (wr := cLs   S0 L0 L0t ++ cLa   L0 W0 G0 B0 P0 ++ cWa cI n L a gd w W0 W1 ++ cGa cI cZ op tn G0 G1 G2 ++ cFl cI cnt ln dr pl B0 B1 B2 B3) (wn := cLs   S0 L0 L0t ++ cLa   L0 W0 G0 B0 P0 ++ cWa cI n L a gd w W0 W1 ++ cGa cI cZ op tn G0 G1 G2 ++ cFl cI cnt ln dr pl B0 B1 B2 B3 ++ cRp  rp P0) (As := [.int (iI x)]) (rest := []) (r := rpN rp x) (ci := 3) (q0 := 0) ⟨hx, hb, hml, hown, hts⟩ (c_X3_numberOf rp P0 x (by first | assumption | omega) (by first | assumption | omega)) (cwV 1 hts gX5_reportNumber_X3_numberOf rfl rfl rfl (by decide +kernel) ⟨Nat.le_of_ble_eq_true rfl, Nat.le_of_ble_eq_true rfl⟩) hK hNW hP hD hS hA rfl rfl rfl rfl (by decide) rfl rfl rfl rfl rfl rfl hl.1 rfl (Nat.le_of_ble_eq_true rfl) dX5_reportNumber_8 ⟨Nat.zero_le _, Nat.zero_le _⟩ (fun H locs hP hD hS => ?_)
  exact li_iret () hx hb hr hlocks hK hP hD hS dX5_reportNumber_11 hQ rfl (congrArg iI (rfl))

set_option maxRecDepth 100000 in
set_option maxHeartbeats 4000000 in
theorem c_X5_levelOf_ok {l : Launch} {D : va_G} {cI cZ cJ : ClassId} (n : Int) (L : Int) (a : Int) (gd : Int) (w : Wt) (op : Int → Int) (tn : Int → Int) (cnt : Int) (ln : Int → Int) (dr : Int → Int) (pl : Int → Int) (rp : Rt) (S0 L0 W0 W1 G0 G1 G2 B0 B1 B2 B3 P0 L0t : Nat) (x : Int) (hn : 1 ≤ n ∧ n ≤ 6) (hL : 5 ≤ L ∧ L ≤ 40) (ha : 1 ≤ a ∧ a ≤ 50) (hw : WI n L a w) (hv : 0 ≤ x ∧ x ≤ n - 1) : Di l yX5_levelOf wsX5_levelOf 25 [.ref S0, .int (iI x)] D (ty3 cI cZ cJ) (cLs   S0 L0 L0t ++ cLa   L0 W0 G0 B0 P0 ++ cWa cI n L a gd w W0 W1 ++ cGa cI cZ op tn G0 G1 G2 ++ cFl cI cnt ln dr pl B0 B1 B2 B3 ++ cRp  rp P0) (lvA n L a w x) (cLs   S0 L0 L0t ++ cLa   L0 W0 G0 B0 P0 ++ cWa cI n L a gd w W0 W1 ++ cGa cI cZ op tn G0 G1 G2 ++ cFl cI cnt ln dr pl B0 B1 B2 B3 ++ cRp  rp P0) := by
  refine ct_i (plainFor_of_name (by decide)) rfl (Nat.le_of_ble_eq_true rfl) ?_
  intro p e s mI args below meth c_0 ls A hx hb hr hml hts hown hlocks hin hA hP hK hD hNW hS hl Q hQ
  have hown : s.vm.findClass RX5 = some mI.cls := hown
  have hl : lv_has ls 2 [(0, .ref S0), (1, .int (iI x))] := hl
  have hin_X2 : ∀ w ∈ wsX20, w ∈ wsX5_levelOf := by decide +kernel
  have hin_X5 : ∀ w ∈ wsX50, w ∈ wsX5_levelOf := by decide +kernel
  have hf_14 := hts (.fieldLink RX5 14 "LockStaircase" "ladder" "LLockStaircase$Ladder;") (by decide +kernel)
  refine lv_aload_n hx hb dX5_levelOf_0 rfl (lv_at hl 0 rfl) ?_
  refine lv_iload_n hx hb dX5_levelOf_1 rfl (lv_at hl 1 rfl) ?_
  refine cl_v0 (isC := [0, 1, 2, 3]) (isR := [4, 5, 6, 7, 8, 9, 10, 11]) (isN := [8, 9, 10, 11, 0, 1, 2, 3, 4, 5, 6, 7]) (wr := cGa cI cZ op tn G0 G1 G2 ++ cFl cI cnt ln dr pl B0 B1 B2 B3 ++ cRp  rp P0) (wn := cLs   S0 L0 L0t ++ cLa   L0 W0 G0 B0 P0 ++ cWa cI n L a gd w W0 W1 ++ cGa cI cZ op tn G0 G1 G2 ++ cFl cI cnt ln dr pl B0 B1 B2 B3 ++ cRp  rp P0) (As := [.int (iI x)]) (rest := []) (ci := 5) (q0 := 0) ⟨hx, hb, hml, hown, hts⟩ (c_X5_needChamber_ok n L a gd w S0 L0 W0 W1 L0t G0 B0 P0 x (by first | assumption | omega) (by first | assumption | omega) (by first | assumption | omega) (by first | assumption | omega)) (cwV 1 hts gX5_levelOf_X5_needChamber rfl rfl rfl (by decide +kernel) ⟨Nat.le_of_ble_eq_true rfl, Nat.le_of_ble_eq_true rfl⟩) hK hNW hP hD hS hA rfl rfl rfl rfl (by decide) rfl rfl rfl rfl rfl rfl hl.1 rfl (Nat.le_of_ble_eq_true rfl) dX5_levelOf_2 ⟨Nat.zero_le _, Nat.zero_le _⟩ (fun H locs hP hD hS => ?_)
  refine lv_aload_n hx hb dX5_levelOf_5 rfl (lv_at hl 0 rfl) ?_
  refine li_get (ci := 5) (v := .ref L0) (C := RX5) (T := TX5) (N := 2) (q0 := 0) (k := 0) hx hb hts hin_X5 hown hK hP rfl rfl (by decide) hf_14 rfl rfl dX5_levelOf_6 ?_
  refine li_getN (own := RX5) (ref := "LockStaircase$Ladder") (host := "LockStaircase") (index := 21) (ci := 2) (v := .ref W0) (C := RX2) (T := TX2) (N := 4) (q0 := 1) (k := 0) hx hb hts hin_X2 hown hK hP rfl rfl (by decide) hNW nw_X5_21 rfl rfl dX5_levelOf_9 ?_
  refine lv_iload_n hx hb dX5_levelOf_12 rfl (lv_at hl 1 rfl) ?_
  refine cl_i0 (isC := [2, 3]) (isR := [0, 1, 4, 5, 6, 7, 8, 9, 10, 11]) (isN := [0, 1, 10, 11, 2, 3, 4, 5, 6, 7, 8, 9]) (wr := cLs   S0 L0 L0t ++ cLa   L0 W0 G0 B0 P0 ++ cGa cI cZ op tn G0 G1 G2 ++ cFl cI cnt ln dr pl B0 B1 B2 B3 ++ cRp  rp P0) (wn := cLs   S0 L0 L0t ++ cLa   L0 W0 G0 B0 P0 ++ cWa cI n L a gd w W0 W1 ++ cGa cI cZ op tn G0 G1 G2 ++ cFl cI cnt ln dr pl B0 B1 B2 B3 ++ cRp  rp P0) (As := [.int (iI x)]) (rest := []) (r := lvA n L a w x) (ci := 4) (q0 := 0) ⟨hx, hb, hml, hown, hts⟩ (c_X4_levelAt n L a gd w W0 W1 x (by first | assumption | omega) (by first | assumption | omega) (by first | assumption | omega) (by first | assumption | omega) (by first | assumption | omega)) (cwV 1 hts gX5_levelOf_X4_levelAt rfl rfl rfl (by decide +kernel) ⟨Nat.le_of_ble_eq_true rfl, Nat.le_of_ble_eq_true rfl⟩) hK hNW hP hD hS hA rfl rfl rfl rfl (by decide) rfl rfl rfl rfl rfl rfl hl.1 rfl (Nat.le_of_ble_eq_true rfl) dX5_levelOf_13 ⟨Nat.zero_le _, Nat.zero_le _⟩ (fun H locs hP hD hS => ?_)
  exact li_iret () hx hb hr hlocks hK hP hD hS dX5_levelOf_16 hQ rfl (congrArg iI (rfl))

set_option maxRecDepth 100000 in
set_option maxHeartbeats 4000000 in
theorem c_X5_headAt_ok {l : Launch} {D : va_G} {cI cZ cJ : ClassId} (n : Int) (L : Int) (a : Int) (gd : Int) (w : Wt) (op : Int → Int) (tn : Int → Int) (cnt : Int) (ln : Int → Int) (dr : Int → Int) (pl : Int → Int) (rp : Rt) (S0 L0 W0 W1 G0 G1 G2 B0 B1 B2 B3 P0 L0t : Nat) (x : Int) (hn : 1 ≤ n ∧ n ≤ 6) (hL : 5 ≤ L ∧ L ≤ 40) (ha : 1 ≤ a ∧ a ≤ 50) (hw : WI n L a w) (hv : 0 ≤ x ∧ x ≤ n) : Di l yX5_headAt wsX5_headAt 25 [.ref S0, .int (iI x)] D (ty3 cI cZ cJ) (cLs   S0 L0 L0t ++ cLa   L0 W0 G0 B0 P0 ++ cWa cI n L a gd w W0 W1 ++ cGa cI cZ op tn G0 G1 G2 ++ cFl cI cnt ln dr pl B0 B1 B2 B3 ++ cRp  rp P0) (hdA n L a w x) (cLs   S0 L0 L0t ++ cLa   L0 W0 G0 B0 P0 ++ cWa cI n L a gd w W0 W1 ++ cGa cI cZ op tn G0 G1 G2 ++ cFl cI cnt ln dr pl B0 B1 B2 B3 ++ cRp  rp P0) := by
  refine ct_i (plainFor_of_name (by decide)) rfl (Nat.le_of_ble_eq_true rfl) ?_
  intro p e s mI args below meth c_0 ls A hx hb hr hml hts hown hlocks hin hA hP hK hD hNW hS hl Q hQ
  have hown : s.vm.findClass RX5 = some mI.cls := hown
  have hl : lv_has ls 2 [(0, .ref S0), (1, .int (iI x))] := hl
  have hin_X2 : ∀ w ∈ wsX20, w ∈ wsX5_headAt := by decide +kernel
  have hin_X5 : ∀ w ∈ wsX50, w ∈ wsX5_headAt := by decide +kernel
  have hf_14 := hts (.fieldLink RX5 14 "LockStaircase" "ladder" "LLockStaircase$Ladder;") (by decide +kernel)
  refine lv_aload_n hx hb dX5_headAt_0 rfl (lv_at hl 0 rfl) ?_
  refine lv_iload_n hx hb dX5_headAt_1 rfl (lv_at hl 1 rfl) ?_
  refine cl_v0 (isC := [0, 1, 2, 3]) (isR := [4, 5, 6, 7, 8, 9, 10, 11]) (isN := [8, 9, 10, 11, 0, 1, 2, 3, 4, 5, 6, 7]) (wr := cGa cI cZ op tn G0 G1 G2 ++ cFl cI cnt ln dr pl B0 B1 B2 B3 ++ cRp  rp P0) (wn := cLs   S0 L0 L0t ++ cLa   L0 W0 G0 B0 P0 ++ cWa cI n L a gd w W0 W1 ++ cGa cI cZ op tn G0 G1 G2 ++ cFl cI cnt ln dr pl B0 B1 B2 B3 ++ cRp  rp P0) (As := [.int (iI x)]) (rest := []) (ci := 5) (q0 := 0) ⟨hx, hb, hml, hown, hts⟩ (c_X5_needGate_ok n L a gd w S0 L0 W0 W1 L0t G0 B0 P0 x (by first | assumption | omega) (by first | assumption | omega) (by first | assumption | omega) (by first | assumption | omega)) (cwV 1 hts gX5_headAt_X5_needGate rfl rfl rfl (by decide +kernel) ⟨Nat.le_of_ble_eq_true rfl, Nat.le_of_ble_eq_true rfl⟩) hK hNW hP hD hS hA rfl rfl rfl rfl (by decide) rfl rfl rfl rfl rfl rfl hl.1 rfl (Nat.le_of_ble_eq_true rfl) dX5_headAt_2 ⟨Nat.zero_le _, Nat.zero_le _⟩ (fun H locs hP hD hS => ?_)
  refine lv_aload_n hx hb dX5_headAt_5 rfl (lv_at hl 0 rfl) ?_
  refine li_get (ci := 5) (v := .ref L0) (C := RX5) (T := TX5) (N := 2) (q0 := 0) (k := 0) hx hb hts hin_X5 hown hK hP rfl rfl (by decide) hf_14 rfl rfl dX5_headAt_6 ?_
  refine li_getN (own := RX5) (ref := "LockStaircase$Ladder") (host := "LockStaircase") (index := 21) (ci := 2) (v := .ref W0) (C := RX2) (T := TX2) (N := 4) (q0 := 1) (k := 0) hx hb hts hin_X2 hown hK hP rfl rfl (by decide) hNW nw_X5_21 rfl rfl dX5_headAt_9 ?_
  refine lv_iload_n hx hb dX5_headAt_12 rfl (lv_at hl 1 rfl) ?_
  refine cl_i0 (isC := [2, 3]) (isR := [0, 1, 4, 5, 6, 7, 8, 9, 10, 11]) (isN := [0, 1, 10, 11, 2, 3, 4, 5, 6, 7, 8, 9]) (wr := cLs   S0 L0 L0t ++ cLa   L0 W0 G0 B0 P0 ++ cGa cI cZ op tn G0 G1 G2 ++ cFl cI cnt ln dr pl B0 B1 B2 B3 ++ cRp  rp P0) (wn := cLs   S0 L0 L0t ++ cLa   L0 W0 G0 B0 P0 ++ cWa cI n L a gd w W0 W1 ++ cGa cI cZ op tn G0 G1 G2 ++ cFl cI cnt ln dr pl B0 B1 B2 B3 ++ cRp  rp P0) (As := [.int (iI x)]) (rest := []) (r := hdA n L a w x) (ci := 4) (q0 := 0) ⟨hx, hb, hml, hown, hts⟩ (c_X4_headOver n L a gd w W0 W1 x (by first | assumption | omega) (by first | assumption | omega) (by first | assumption | omega) (by first | assumption | omega) (by first | assumption | omega)) (cwV 1 hts gX5_headAt_X4_headOver rfl rfl rfl (by decide +kernel) ⟨Nat.le_of_ble_eq_true rfl, Nat.le_of_ble_eq_true rfl⟩) hK hNW hP hD hS hA rfl rfl rfl rfl (by decide) rfl rfl rfl rfl rfl rfl hl.1 rfl (Nat.le_of_ble_eq_true rfl) dX5_headAt_13 ⟨Nat.zero_le _, Nat.zero_le _⟩ (fun H locs hP hD hS => ?_)
  exact li_iret () hx hb hr hlocks hK hP hD hS dX5_headAt_16 hQ rfl (congrArg iI (rfl))

set_option maxRecDepth 100000 in
set_option maxHeartbeats 4000000 in
theorem c_X5_isOpen_ok {l : Launch} {D : va_G} {cI cZ cJ : ClassId} (n : Int) (L : Int) (a : Int) (gd : Int) (w : Wt) (op : Int → Int) (tn : Int → Int) (cnt : Int) (ln : Int → Int) (dr : Int → Int) (pl : Int → Int) (rp : Rt) (S0 L0 W0 W1 G0 G1 G2 B0 B1 B2 B3 P0 L0t : Nat) (x : Int) (hn : 1 ≤ n ∧ n ≤ 6) (hL : 5 ≤ L ∧ L ≤ 40) (ha : 1 ≤ a ∧ a ≤ 50) (hop : opB op) (hv : 0 ≤ x ∧ x ≤ n) : Di l yX5_isOpen wsX5_isOpen 25 [.ref S0, .int (iI x)] D (ty3 cI cZ cJ) (cLs   S0 L0 L0t ++ cLa   L0 W0 G0 B0 P0 ++ cWa cI n L a gd w W0 W1 ++ cGa cI cZ op tn G0 G1 G2 ++ cFl cI cnt ln dr pl B0 B1 B2 B3 ++ cRp  rp P0) (bz (isO op x = true)) (cLs   S0 L0 L0t ++ cLa   L0 W0 G0 B0 P0 ++ cWa cI n L a gd w W0 W1 ++ cGa cI cZ op tn G0 G1 G2 ++ cFl cI cnt ln dr pl B0 B1 B2 B3 ++ cRp  rp P0) := by
  refine ct_i (plainFor_of_name (by decide)) rfl (Nat.le_of_ble_eq_true rfl) ?_
  intro p e s mI args below meth c_0 ls A hx hb hr hml hts hown hlocks hin hA hP hK hD hNW hS hl Q hQ
  have hown : s.vm.findClass RX5 = some mI.cls := hown
  have hl : lv_has ls 2 [(0, .ref S0), (1, .int (iI x))] := hl
  have hin_X2 : ∀ w ∈ wsX20, w ∈ wsX5_isOpen := by decide +kernel
  have hin_X5 : ∀ w ∈ wsX50, w ∈ wsX5_isOpen := by decide +kernel
  have hf_14 := hts (.fieldLink RX5 14 "LockStaircase" "ladder" "LLockStaircase$Ladder;") (by decide +kernel)
  refine lv_aload_n hx hb dX5_isOpen_0 rfl (lv_at hl 0 rfl) ?_
  refine lv_iload_n hx hb dX5_isOpen_1 rfl (lv_at hl 1 rfl) ?_
  refine cl_v0 (isC := [0, 1, 2, 3]) (isR := [4, 5, 6, 7, 8, 9, 10, 11]) (isN := [8, 9, 10, 11, 0, 1, 2, 3, 4, 5, 6, 7]) (wr := cGa cI cZ op tn G0 G1 G2 ++ cFl cI cnt ln dr pl B0 B1 B2 B3 ++ cRp  rp P0) (wn := cLs   S0 L0 L0t ++ cLa   L0 W0 G0 B0 P0 ++ cWa cI n L a gd w W0 W1 ++ cGa cI cZ op tn G0 G1 G2 ++ cFl cI cnt ln dr pl B0 B1 B2 B3 ++ cRp  rp P0) (As := [.int (iI x)]) (rest := []) (ci := 5) (q0 := 0) ⟨hx, hb, hml, hown, hts⟩ (c_X5_needGate_ok n L a gd w S0 L0 W0 W1 L0t G0 B0 P0 x (by first | assumption | omega) (by first | assumption | omega) (by first | assumption | omega) (by first | assumption | omega)) (cwV 1 hts gX5_isOpen_X5_needGate rfl rfl rfl (by decide +kernel) ⟨Nat.le_of_ble_eq_true rfl, Nat.le_of_ble_eq_true rfl⟩) hK hNW hP hD hS hA rfl rfl rfl rfl (by decide) rfl rfl rfl rfl rfl rfl hl.1 rfl (Nat.le_of_ble_eq_true rfl) dX5_isOpen_2 ⟨Nat.zero_le _, Nat.zero_le _⟩ (fun H locs hP hD hS => ?_)
  refine lv_aload_n hx hb dX5_isOpen_5 rfl (lv_at hl 0 rfl) ?_
  refine li_get (ci := 5) (v := .ref L0) (C := RX5) (T := TX5) (N := 2) (q0 := 0) (k := 0) hx hb hts hin_X5 hown hK hP rfl rfl (by decide) hf_14 rfl rfl dX5_isOpen_6 ?_
  refine li_getN (own := RX5) (ref := "LockStaircase$Ladder") (host := "LockStaircase") (index := 53) (ci := 2) (v := .ref G0) (C := RX2) (T := TX2) (N := 4) (q0 := 1) (k := 1) hx hb hts hin_X2 hown hK hP rfl rfl (by decide) hNW nw_X5_53 rfl rfl dX5_isOpen_9 ?_
  refine lv_iload_n hx hb dX5_isOpen_12 rfl (lv_at hl 1 rfl) ?_
  refine cl_i0 (isC := [4, 5, 6]) (isR := [0, 1, 2, 3, 7, 8, 9, 10, 11]) (isN := [0, 1, 2, 3, 9, 10, 11, 4, 5, 6, 7, 8]) (wr := cLs   S0 L0 L0t ++ cLa   L0 W0 G0 B0 P0 ++ cWa cI n L a gd w W0 W1 ++ cFl cI cnt ln dr pl B0 B1 B2 B3 ++ cRp  rp P0) (wn := cLs   S0 L0 L0t ++ cLa   L0 W0 G0 B0 P0 ++ cWa cI n L a gd w W0 W1 ++ cGa cI cZ op tn G0 G1 G2 ++ cFl cI cnt ln dr pl B0 B1 B2 B3 ++ cRp  rp P0) (As := [.int (iI x)]) (rest := []) (r := bz (isO op x = true)) (ci := 1) (q0 := 0) ⟨hx, hb, hml, hown, hts⟩ (c_X1_isOpenAt op tn G0 G1 G2 x (by first | assumption | omega) (by first | assumption | omega)) (cwV 1 hts gX5_isOpen_X1_isOpenAt rfl rfl rfl (by decide +kernel) ⟨Nat.le_of_ble_eq_true rfl, Nat.le_of_ble_eq_true rfl⟩) hK hNW hP hD hS hA rfl rfl rfl rfl (by decide) rfl rfl rfl rfl rfl rfl hl.1 rfl (Nat.le_of_ble_eq_true rfl) dX5_isOpen_13 ⟨Nat.zero_le _, Nat.zero_le _⟩ (fun H locs hP hD hS => ?_)
  exact li_zret () hx hb hr hlocks hK hP hD hS (by exact bz_01 _) dX5_isOpen_16 hQ rfl (congrArg iI (rfl))
