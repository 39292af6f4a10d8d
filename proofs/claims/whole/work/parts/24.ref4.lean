set_option maxRecDepth 100000 in
set_option maxHeartbeats 4000000 in
theorem c_X6_lengthIn {l : Launch} {D : va_G} {cI cZ cJ : ClassId} (n : Int) (L : Int) (a : Int) (rn : Int) (sp : Int) (cnt : Int) (th : Int) (w : Wt) (op : Int → Int) (tn : Int → Int) (pl : Int → Int) (en : Int) (kd : Int → Int) (nb : Int → Int) (as : Int → Int) (ln : Int → Int) (dr : Int → Int) (M0 M1 M2 M3 M4 : Nat) (x : Int) (hn : 1 ≤ n ∧ n ≤ 6) (hL : 5 ≤ L ∧ L ≤ 40) (ha : 1 ≤ a ∧ a ≤ 50) (hcnt : 0 ≤ cnt ∧ cnt ≤ 10) (hpi : plI n pl) (hx9 : 0 ≤ x ∧ x < n) : Di l yX6_lengthIn wsX6_lengthIn 1 [.ref M0, .int (iI x)] D (ty3 cI cZ cJ) (cMd cI n L a rn sp cnt th (rowF w op tn pl en kd nb) as ln dr M0 M1 M2 M3 M4) (sumZ (lenP pl ln (x + 1)) cnt.toNat) (cMd cI n L a rn sp cnt th (rowF w op tn pl en kd nb) as ln dr M0 M1 M2 M3 M4) := by
  refine ct_i (plainFor_of_name (by decide)) rfl (Nat.le_of_ble_eq_true rfl) ?_
  intro p e s mI args below meth c_0 ls A hx hb hr hml hts hown hlocks hin hA hP hK hD hNW hS hl Q hQ
  have hown : s.vm.findClass RX6 = some mI.cls := hown
  have hl : lv_has ls 4 [(0, .ref M0), (1, .int (iI x))] := hl
  have hin_X6 : ∀ w ∈ wsX60, w ∈ wsX6_lengthIn := by decide +kernel
  have hf_16 := hts (.fieldLink RX6 16 "LockStaircaseModel" "lengths" "[I") (by decide +kernel)
  have hf_56 := hts (.fieldLink RX6 56 "LockStaircaseModel" "boats" "I") (by decide +kernel)
  have hf_9 := hts (.fieldLink RX6 9 "LockStaircaseModel" "row" "[I") (by decide +kernel)
  refine li_const hx hb dX6_lengthIn_0 ?_
  refine lv_istore_n (lv' := [(2, .int (iI 0)), (0, .ref M0), (1, .int (iI x))]) hx hb dX6_lengthIn_1 rfl hl (by decide) rfl (fun ls hl => ?_)
  refine li_const hx hb dX6_lengthIn_2 ?_
  refine lv_istore_n (lv' := [(3, .int (iI 0)), (2, .int (iI 0)), (0, .ref M0), (1, .int (iI x))]) hx hb dX6_lengthIn_3 rfl hl (by decide) rfl (fun ls hl => ?_)
  have loop_4 : ∀ (N : Nat) (j : Int) (sv : Int), (0 ≤ j ∧ j ≤ cnt) → (sv = sumZ (lenP pl ln (x + 1)) j.toNat) → cnt - j < (N : Int) → ∀ (H : Heap) (locs : List Loc), va_P D vwCl (cMd cI n L a rn sp cnt th (rowF w op tn pl en kd nb) as ln dr M0 M1 M2 M3 M4) H → va_D A (cMd cI n L a rn sp cnt th (rowF w op tn pl en kd nb) as ln dr M0 M1 M2 M3 M4) → va_S A s.heap H locs → ∀ (ls : Array Slot), lv_has ls 4 [(3, .int (iI j)), (2, .int (iI sv)), (0, .ref M0), (1, .int (iI x))] → W p l e (rK 1 0 0) s mI args below meth c_0 H locs 0 0 Q (F0 mI 4 ls []) := by
    intro N
    induction N with
    | zero =>
      intro j sv hj hh hN
      exact absurd hN (by omega)
    | succ N ih =>
      intro j sv hj hh hN H locs hP hD hS ls hl
      have hp := hpi j
      refine lv_iload_n hx hb dX6_lengthIn_4 rfl (lv_at hl 0 rfl) ?_
      refine lv_aload_n hx hb dX6_lengthIn_5 rfl (lv_at hl 2 rfl) ?_
      refine li_get (ci := 6) (v := .int (iI cnt)) (C := RX6) (T := TX6) (N := 11) (q0 := 0) (k := 9) hx hb hts hin_X6 hown hK hP rfl rfl (by decide) hf_56 rfl rfl dX6_lengthIn_6 ?_
      refine li_icmp_ge (tgt := 46) hx hb dX6_lengthIn_9 (by decide) (ib_i (by omega) (by omega)) (ib_i (by omega) (by omega)) (fun c_9 => ?_) (fun c_9 => ?_)
      · refine lv_iload_n hx hb dX6_lengthIn_46 rfl (lv_at hl 1 rfl) ?_
        exact li_iret () hx hb hr hlocks hK hP hD hS dX6_lengthIn_47 hQ rfl (congrArg iI (by rw [hh, show j = cnt by omega]))
      · refine lv_iload_n hx hb dX6_lengthIn_12 rfl (lv_at hl 1 rfl) ?_
        refine lv_aload_n hx hb dX6_lengthIn_13 rfl (lv_at hl 2 rfl) ?_
        refine li_get (ci := 6) (v := .ref M1) (C := RX6) (T := TX6) (N := 11) (q0 := 0) (k := 5) hx hb hts hin_X6 hown hK hP rfl rfl (by decide) hf_9 rfl rfl dX6_lengthIn_14 ?_
        refine li_bipush hx hb dX6_lengthIn_17 (by decide) ?_
        refine lv_iload_n hx hb dX6_lengthIn_19 rfl (lv_at hl 0 rfl) ?_
        refine li_add hx hb dX6_lengthIn_20 ?_
        refine li_iald (q0 := 1) (t0 := 0) (g := (rowF w op tn pl en kd nb)) hx hb hK hP rfl rfl (by omega) (by omega) (ib_i (by omega) (by omega)) dX6_lengthIn_21 ?_
        refine li_top (b := pl j) (rd_p (c := j) (by omega) (by omega) (by omega)) ?_
        refine lv_iload_n hx hb dX6_lengthIn_22 rfl (lv_at hl 3 rfl) ?_
        refine li_const hx hb dX6_lengthIn_23 ?_
        refine li_add hx hb dX6_lengthIn_24 ?_
        refine li_icmp_ne (tgt := 37) hx hb dX6_lengthIn_25 (by decide) (ib_i (by omega) (by omega)) (ib_i (by omega) (by omega)) (fun c_25 => ?_) (fun c_25 => ?_)
        · refine li_const hx hb dX6_lengthIn_37 ?_
          refine li_add hx hb dX6_lengthIn_38 ?_
          refine lv_istore_n (lv' := [(2, .int (iI (sv + 0))), (3, .int (iI j)), (0, .ref M0), (1, .int (iI x))]) hx hb dX6_lengthIn_39 rfl hl (by decide) rfl (fun ls hl => ?_)
          refine li_inc (j := 1) (lv' := [(3, .int (iI (j + 1))), (2, .int (iI (sv + 0))), (0, .ref M0), (1, .int (iI x))]) hx hb dX6_lengthIn_40 hl rfl (by decide) rfl (fun ls hl => ?_)
          refine lv_goto (tgt := 4) hx hb dX6_lengthIn_43 (by decide) ?_
          exact ih (j + 1) (sv + 0) (by omega) (by rw [sumZ_s _ hj.1]; first | (rw [show lenP pl ln (x + 1) j = ln j from if_pos (by omega)]; omega) | (rw [show lenP pl ln (x + 1) j = 0 from if_neg (by omega)]; omega)) (by omega) _ _ hP hD hS _ (lv_sub hl [0, 1, 2, 3] rfl)
        · refine lv_aload_n hx hb dX6_lengthIn_28 rfl (lv_at hl 2 rfl) ?_
          refine li_get (ci := 6) (v := .ref M3) (C := RX6) (T := TX6) (N := 11) (q0 := 0) (k := 7) hx hb hts hin_X6 hown hK hP rfl rfl (by decide) hf_16 rfl rfl dX6_lengthIn_29 ?_
          refine lv_iload_n hx hb dX6_lengthIn_32 rfl (lv_at hl 0 rfl) ?_
          refine li_iald (q0 := 3) (t0 := 0) (g := ln) hx hb hK hP rfl rfl (by omega) (by omega) (ib_i (by omega) (by omega)) dX6_lengthIn_33 ?_
          refine lv_goto (tgt := 38) hx hb dX6_lengthIn_34 (by decide) ?_
          refine li_add hx hb dX6_lengthIn_38 ?_
          refine lv_istore_n (lv' := [(2, .int (iI (sv + (ln j)))), (3, .int (iI j)), (0, .ref M0), (1, .int (iI x))]) hx hb dX6_lengthIn_39 rfl hl (by decide) rfl (fun ls hl => ?_)
          refine li_inc (j := 1) (lv' := [(3, .int (iI (j + 1))), (2, .int (iI (sv + (ln j)))), (0, .ref M0), (1, .int (iI x))]) hx hb dX6_lengthIn_40 hl rfl (by decide) rfl (fun ls hl => ?_)
          refine lv_goto (tgt := 4) hx hb dX6_lengthIn_43 (by decide) ?_
          exact ih (j + 1) (sv + (ln j)) (by omega) (by rw [sumZ_s _ hj.1]; first | (rw [show lenP pl ln (x + 1) j = ln j from if_pos (by omega)]; omega) | (rw [show lenP pl ln (x + 1) j = 0 from if_neg (by omega)]; omega)) (by omega) _ _ hP hD hS _ (lv_sub hl [0, 1, 2, 3] rfl)
  exact loop_4 (((cnt - 0) : Int) + 1).toNat 0 0 (by omega) (by rfl) (by omega) _ _ hP hD hS _ (lv_sub hl [0, 1, 2, 3] rfl)

set_option maxRecDepth 100000 in
set_option maxHeartbeats 4000000 in
theorem c_X6_gateOf {l : Launch} {D : va_G} {cI cZ cJ : ClassId} (n : Int) (L : Int) (a : Int) (rn : Int) (sp : Int) (cnt : Int) (th : Int) (w : Wt) (op : Int → Int) (tn : Int → Int) (pl : Int → Int) (en : Int) (kd : Int → Int) (nb : Int → Int) (as : Int → Int) (ln : Int → Int) (dr : Int → Int) (M0 M1 M2 M3 M4 : Nat) (b : Int) (up : Int) (hcnt : 0 ≤ cnt ∧ cnt ≤ 10) (hbt : 0 ≤ b ∧ b < cnt) (hup : up = 0 ∨ up = 1) : Di l yX6_gateOf wsX6_gateOf 1 [.ref M0, .int (iI b), .int (iI up)] D (ty3 cI cZ cJ) (cMd cI n L a rn sp cnt th (rowF w op tn pl en kd nb) as ln dr M0 M1 M2 M3 M4) (gtA (pl b) (plN pl b up)) (cMd cI n L a rn sp cnt th (rowF w op tn pl en kd nb) as ln dr M0 M1 M2 M3 M4) := by
  refine ct_i (plainFor_of_name (by decide)) rfl (Nat.le_of_ble_eq_true rfl) ?_
  intro p e s mI args below meth c_0 ls A hx hb hr hml hts hown hlocks hin hA hP hK hD hNW hS hl Q hQ
  have hown : s.vm.findClass RX6 = some mI.cls := hown
  have hl : lv_has ls 3 [(0, .ref M0), (1, .int (iI b)), (2, .int (iI up))] := hl
  have hin_X6 : ∀ w ∈ wsX60, w ∈ wsX6_gateOf := by decide +kernel
  have hf_9 := hts (.fieldLink RX6 9 "LockStaircaseModel" "row" "[I") (by decide +kernel)
  refine lv_iload_n hx hb dX6_gateOf_0 rfl (lv_at hl 2 rfl) ?_
  refine li_if_eq (tgt := 16) hx hb dX6_gateOf_1 (by decide) (ib_i (by omega) (by omega)) (fun c_1 => ?_) (fun c_1 => ?_)
  · refine lv_aload_n hx hb dX6_gateOf_16 rfl (lv_at hl 0 rfl) ?_
    refine li_get (ci := 6) (v := .ref M1) (C := RX6) (T := TX6) (N := 11) (q0 := 0) (k := 5) hx hb hts hin_X6 hown hK hP rfl rfl (by decide) hf_9 rfl rfl dX6_gateOf_17 ?_
    refine li_bipush hx hb dX6_gateOf_20 (by decide) ?_
    refine lv_iload_n hx hb dX6_gateOf_22 rfl (lv_at hl 1 rfl) ?_
    refine li_add hx hb dX6_gateOf_23 ?_
    refine li_iald (q0 := 1) (t0 := 0) (g := (rowF w op tn pl en kd nb)) hx hb hK hP rfl rfl (by omega) (by omega) (ib_i (by omega) (by omega)) dX6_gateOf_24 ?_
    refine li_top (b := pl b) (rd_p (c := b) (by omega) (by omega) (by omega)) ?_
    refine li_const hx hb dX6_gateOf_25 ?_
    refine li_sub hx hb dX6_gateOf_26 ?_
    exact li_iret () hx hb hr hlocks hK hP hD hS dX6_gateOf_27 hQ rfl (congrArg iI (by unfold gtA plN; (repeat' split) <;> omega))
  · refine lv_aload_n hx hb dX6_gateOf_4 rfl (lv_at hl 0 rfl) ?_
    refine li_get (ci := 6) (v := .ref M1) (C := RX6) (T := TX6) (N := 11) (q0 := 0) (k := 5) hx hb hts hin_X6 hown hK hP rfl rfl (by decide) hf_9 rfl rfl dX6_gateOf_5 ?_
    refine li_bipush hx hb dX6_gateOf_8 (by decide) ?_
    refine lv_iload_n hx hb dX6_gateOf_10 rfl (lv_at hl 1 rfl) ?_
    refine li_add hx hb dX6_gateOf_11 ?_
    refine li_iald (q0 := 1) (t0 := 0) (g := (rowF w op tn pl en kd nb)) hx hb hK hP rfl rfl (by omega) (by omega) (ib_i (by omega) (by omega)) dX6_gateOf_12 ?_
    refine li_top (b := pl b) (rd_p (c := b) (by omega) (by omega) (by omega)) ?_
    refine lv_goto (tgt := 27) hx hb dX6_gateOf_13 (by decide) ?_
    exact li_iret () hx hb hr hlocks hK hP hD hS dX6_gateOf_27 hQ rfl (congrArg iI (by unfold gtA plN; (repeat' split) <;> omega))

set_option maxRecDepth 100000 in
set_option maxHeartbeats 4000000 in
theorem c_X6_target {l : Launch} {D : va_G} {cI cZ cJ : ClassId} (n : Int) (L : Int) (a : Int) (rn : Int) (sp : Int) (cnt : Int) (th : Int) (w : Wt) (op : Int → Int) (tn : Int → Int) (pl : Int → Int) (en : Int) (kd : Int → Int) (nb : Int → Int) (as : Int → Int) (ln : Int → Int) (dr : Int → Int) (M0 M1 M2 M3 M4 : Nat) (b : Int) (up : Int) (hcnt : 0 ≤ cnt ∧ cnt ≤ 10) (hbt : 0 ≤ b ∧ b < cnt) (hup : up = 0 ∨ up = 1) : Di l yX6_target wsX6_target 1 [.ref M0, .int (iI b), .int (iI up)] D (ty3 cI cZ cJ) (cMd cI n L a rn sp cnt th (rowF w op tn pl en kd nb) as ln dr M0 M1 M2 M3 M4) (plN pl b up) (cMd cI n L a rn sp cnt th (rowF w op tn pl en kd nb) as ln dr M0 M1 M2 M3 M4) := by
  refine ct_i (plainFor_of_name (by decide)) rfl (Nat.le_of_ble_eq_true rfl) ?_
  intro p e s mI args below meth c_0 ls A hx hb hr hml hts hown hlocks hin hA hP hK hD hNW hS hl Q hQ
  have hown : s.vm.findClass RX6 = some mI.cls := hown
  have hl : lv_has ls 3 [(0, .ref M0), (1, .int (iI b)), (2, .int (iI up))] := hl
  have hin_X6 : ∀ w ∈ wsX60, w ∈ wsX6_target := by decide +kernel
  have hf_9 := hts (.fieldLink RX6 9 "LockStaircaseModel" "row" "[I") (by decide +kernel)
  refine lv_aload_n hx hb dX6_target_0 rfl (lv_at hl 0 rfl) ?_
  refine li_get (ci := 6) (v := .ref M1) (C := RX6) (T := TX6) (N := 11) (q0 := 0) (k := 5) hx hb hts hin_X6 hown hK hP rfl rfl (by decide) hf_9 rfl rfl dX6_target_1 ?_
  refine li_bipush hx hb dX6_target_4 (by decide) ?_
  refine lv_iload_n hx hb dX6_target_6 rfl (lv_at hl 1 rfl) ?_
  refine li_add hx hb dX6_target_7 ?_
  refine li_iald (q0 := 1) (t0 := 0) (g := (rowF w op tn pl en kd nb)) hx hb hK hP rfl rfl (by omega) (by omega) (ib_i (by omega) (by omega)) dX6_target_8 ?_
  refine li_top (b := pl b) (rd_p (c := b) (by omega) (by omega) (by omega)) ?_
  refine lv_iload_n hx hb dX6_target_9 rfl (lv_at hl 2 rfl) ?_
  refine li_if_eq (tgt := 17) hx hb dX6_target_10 (by decide) (ib_i (by omega) (by omega)) (fun c_10 => ?_) (fun c_10 => ?_)
  · refine li_const hx hb dX6_target_17 ?_
    refine li_add hx hb dX6_target_18 ?_
    exact li_iret () hx hb hr hlocks hK hP hD hS dX6_target_19 hQ rfl (congrArg iI (by unfold plN; first | rw [if_pos (by omega)] | rw [if_neg (by omega)]))
  · refine li_const hx hb dX6_target_13 ?_
    refine lv_goto (tgt := 18) hx hb dX6_target_14 (by decide) ?_
    refine li_add hx hb dX6_target_18 ?_
    exact li_iret () hx hb hr hlocks hK hP hD hS dX6_target_19 hQ rfl (congrArg iI (by unfold plN; first | rw [if_pos (by omega)] | rw [if_neg (by omega)]))

set_option maxRecDepth 100000 in
set_option maxHeartbeats 4000000 in
theorem c_X6_obstacleThere {l : Launch} {D : va_G} {cI cZ cJ : ClassId} (n : Int) (L : Int) (a : Int) (rn : Int) (sp : Int) (cnt : Int) (th : Int) (w : Wt) (op : Int → Int) (tn : Int → Int) (pl : Int → Int) (en : Int) (kd : Int → Int) (nb : Int → Int) (as : Int → Int) (ln : Int → Int) (dr : Int → Int) (M0 M1 M2 M3 M4 : Nat) (b : Int) (x : Int) (hn : 1 ≤ n ∧ n ≤ 6) (hL : 5 ≤ L ∧ L ≤ 40) (ha : 1 ≤ a ∧ a ≤ 50) (hw : WI n L a w) (hcnt : 0 ≤ cnt ∧ cnt ≤ 10) (hbt : 0 ≤ b ∧ b < cnt) (hln : lnB ln) (hdr : lnB dr) (hpi : plI n pl) (hx9 : 0 ≤ x ∧ x ≤ n + 1) : Di l yX6_obstacleThere wsX6_obstacleThere 4 [.ref M0, .int (iI b), .int (iI x)] D (ty3 cI cZ cJ) (cMd cI n L a rn sp cnt th (rowF w op tn pl en kd nb) as ln dr M0 M1 M2 M3 M4) (obI n a w cnt ln dr pl x b) (cMd cI n L a rn sp cnt th (rowF w op tn pl en kd nb) as ln dr M0 M1 M2 M3 M4) := by
  refine ct_i (plainFor_of_name (by decide)) rfl (Nat.le_of_ble_eq_true rfl) ?_
  intro p e s mI args below meth c_0 ls A hx hb hr hml hts hown hlocks hin hA hP hK hD hNW hS hl Q hQ
  have hown : s.vm.findClass RX6 = some mI.cls := hown
  have hl : lv_has ls 3 [(0, .ref M0), (1, .int (iI b)), (2, .int (iI x))] := hl
  have hin_X6 : ∀ w ∈ wsX60, w ∈ wsX6_obstacleThere := by decide +kernel
  have hf_16 := hts (.fieldLink RX6 16 "LockStaircaseModel" "lengths" "[I") (by decide +kernel)
  have hf_19 := hts (.fieldLink RX6 19 "LockStaircaseModel" "draughts" "[I") (by decide +kernel)
  have hf_26 := hts (.fieldLink RX6 26 "LockStaircaseModel" "chambers" "I") (by decide +kernel)
  have hw1 : -1000 ≤ w.1 ∧ w.1 ≤ 20 * a := hw.1
  have d1 := dv_b ha hw1.1 hw1.2
  have l1 := hln b
  have l2 := hdr b
  have l3 := lenS_b (pl := pl) hln x hcnt.1 hcnt.2
  refine lv_iload_n hx hb dX6_obstacleThere_0 rfl (lv_at hl 2 rfl) ?_
  refine li_const hx hb dX6_obstacleThere_1 ?_
  refine lv_aload_n hx hb dX6_obstacleThere_2 rfl (lv_at hl 0 rfl) ?_
  refine li_get (ci := 6) (v := .int (iI n)) (C := RX6) (T := TX6) (N := 11) (q0 := 0) (k := 0) hx hb hts hin_X6 hown hK hP rfl rfl (by decide) hf_26 rfl rfl dX6_obstacleThere_3 ?_
  refine cs_i0 (isC := []) (isR := [0, 1, 2, 3, 4]) (isN := [0, 1, 2, 3, 4]) (wr := cMd cI n L a rn sp cnt th (rowF w op tn pl en kd nb) as ln dr M0 M1 M2 M3 M4) (wn := cMd cI n L a rn sp cnt th (rowF w op tn pl en kd nb) as ln dr M0 M1 M2 M3 M4) (As := [.int (iI x), .int (iI 1), .int (iI n)]) (rest := []) (r := bz (1 ≤ x ∧ x ≤ n)) ⟨hx, hb, hml, hown, hts⟩ (c_X6_isWithin x 1 n (by first | assumption | omega) (by first | assumption | omega) (by first | assumption | omega)) (va_cwS 3 hts gX6_obstacleThere_X6_isWithin rfl rfl rfl (by decide +kernel) ⟨Nat.le_of_ble_eq_true rfl, Nat.le_of_ble_eq_true rfl⟩) hK hNW hP hD hS hA rfl rfl rfl rfl (by decide) rfl rfl rfl hl.1 rfl (Nat.le_of_ble_eq_true rfl) dX6_obstacleThere_6 ⟨Nat.zero_le _, Nat.zero_le _⟩ (fun H locs hP hD hS => ?_)
  refine li_ifb_eq (tgt := 33) hx hb dX6_obstacleThere_9 (by decide) (fun c_9 => ?_) (fun c_9 => ?_)
  · refine lv_iload_n hx hb dX6_obstacleThere_33 rfl (lv_at hl 2 rfl) ?_
    refine lv_aload_n hx hb dX6_obstacleThere_34 rfl (lv_at hl 0 rfl) ?_
    refine li_get (ci := 6) (v := .int (iI n)) (C := RX6) (T := TX6) (N := 11) (q0 := 0) (k := 0) hx hb hts hin_X6 hown hK hP rfl rfl (by decide) hf_26 rfl rfl dX6_obstacleThere_35 ?_
    refine li_const hx hb dX6_obstacleThere_38 ?_
    refine li_add hx hb dX6_obstacleThere_39 ?_
    refine li_icmp_ne (tgt := 60) hx hb dX6_obstacleThere_40 (by decide) (ib_i (by omega) (by omega)) (ib_i (by omega) (by omega)) (fun c_40 => ?_) (fun c_40 => ?_)
    · refine li_const hx hb dX6_obstacleThere_60 ?_
      exact li_iret () hx hb hr hlocks hK hP hD hS dX6_obstacleThere_61 hQ rfl (congrArg iI (by first | (exfalso; omega) | (unfold obI; repeat (first | rw [if_pos (by omega)] | rw [if_neg (by omega)]))))
    · refine lv_aload_n hx hb dX6_obstacleThere_43 rfl (lv_at hl 0 rfl) ?_
      refine cl_i0 (isC := [0, 1, 2, 3, 4]) (isR := []) (isN := [0, 1, 2, 3, 4]) (wr := []) (wn := cMd cI n L a rn sp cnt th (rowF w op tn pl en kd nb) as ln dr M0 M1 M2 M3 M4) (As := []) (rest := []) (r := w.1 / a) (ci := 6) (q0 := 0) ⟨hx, hb, hml, hown, hts⟩ (c_X6_depth n L a rn sp cnt th w op tn pl en kd nb as ln dr M0 M1 M2 M3 M4 (by first | assumption | omega) (by first | assumption | omega) (by first | assumption | omega) (by first | assumption | omega)) (cwV 0 hts gX6_obstacleThere_X6_depth rfl rfl rfl (by decide +kernel) ⟨Nat.le_of_ble_eq_true rfl, Nat.le_of_ble_eq_true rfl⟩) hK hNW hP hD hS hA rfl rfl rfl rfl (by decide) rfl rfl rfl rfl rfl rfl hl.1 rfl (Nat.le_of_ble_eq_true rfl) dX6_obstacleThere_44 ⟨Nat.zero_le _, Nat.zero_le _⟩ (fun H locs hP hD hS => ?_)
      refine lv_aload_n hx hb dX6_obstacleThere_47 rfl (lv_at hl 0 rfl) ?_
      refine li_get (ci := 6) (v := .ref M4) (C := RX6) (T := TX6) (N := 11) (q0 := 0) (k := 8) hx hb hts hin_X6 hown hK hP rfl rfl (by decide) hf_19 rfl rfl dX6_obstacleThere_48 ?_
      refine lv_iload_n hx hb dX6_obstacleThere_51 rfl (lv_at hl 1 rfl) ?_
      refine li_iald (q0 := 4) (t0 := 0) (g := dr) hx hb hK hP rfl rfl (by omega) (by omega) (ib_i (by omega) (by omega)) dX6_obstacleThere_52 ?_
      refine li_icmp_ge (tgt := 60) hx hb dX6_obstacleThere_53 (by decide) (ib_i (by omega) (by omega)) (ib_i (by omega) (by omega)) (fun c_53 => ?_) (fun c_53 => ?_)
      · refine li_const hx hb dX6_obstacleThere_60 ?_
        exact li_iret () hx hb hr hlocks hK hP hD hS dX6_obstacleThere_61 hQ rfl (congrArg iI (by first | (exfalso; omega) | (unfold obI; repeat (first | rw [if_pos (by omega)] | rw [if_neg (by omega)]))))
      · refine li_const hx hb dX6_obstacleThere_56 ?_
        refine lv_goto (tgt := 61) hx hb dX6_obstacleThere_57 (by decide) ?_
        exact li_iret () hx hb hr hlocks hK hP hD hS dX6_obstacleThere_61 hQ rfl (congrArg iI (by first | (exfalso; omega) | (unfold obI; repeat (first | rw [if_pos (by omega)] | rw [if_neg (by omega)]))))
  · refine lv_aload_n hx hb dX6_obstacleThere_12 rfl (lv_at hl 0 rfl) ?_
    refine lv_iload_n hx hb dX6_obstacleThere_13 rfl (lv_at hl 2 rfl) ?_
    refine li_const hx hb dX6_obstacleThere_14 ?_
    refine li_sub hx hb dX6_obstacleThere_15 ?_
    refine cl_i0 (isC := [0, 1, 2, 3, 4]) (isR := []) (isN := [0, 1, 2, 3, 4]) (wr := []) (wn := cMd cI n L a rn sp cnt th (rowF w op tn pl en kd nb) as ln dr M0 M1 M2 M3 M4) (As := [.int (iI (x - 1))]) (rest := []) (r := sumZ (lenP pl ln ((x - 1) + 1)) cnt.toNat) (ci := 6) (q0 := 0) ⟨hx, hb, hml, hown, hts⟩ (c_X6_lengthIn n L a rn sp cnt th w op tn pl en kd nb as ln dr M0 M1 M2 M3 M4 (x - 1) (by first | assumption | omega) (by first | assumption | omega) (by first | assumption | omega) (by first | assumption | omega) (by first | assumption | omega) (by first | assumption | omega)) (cwV 1 hts gX6_obstacleThere_X6_lengthIn rfl rfl rfl (by decide +kernel) ⟨Nat.le_of_ble_eq_true rfl, Nat.le_of_ble_eq_true rfl⟩) hK hNW hP hD hS hA rfl rfl rfl rfl (by decide) rfl rfl rfl rfl rfl rfl hl.1 rfl (Nat.le_of_ble_eq_true rfl) dX6_obstacleThere_16 ⟨Nat.zero_le _, Nat.zero_le _⟩ (fun H locs hP hD hS => ?_)
    refine li_top (b := sumZ (lenP pl ln x) cnt.toNat) (by rw [show x - 1 + 1 = x by omega]) ?_
    refine lv_aload_n hx hb dX6_obstacleThere_19 rfl (lv_at hl 0 rfl) ?_
    refine li_get (ci := 6) (v := .ref M3) (C := RX6) (T := TX6) (N := 11) (q0 := 0) (k := 7) hx hb hts hin_X6 hown hK hP rfl rfl (by decide) hf_16 rfl rfl dX6_obstacleThere_20 ?_
    refine lv_iload_n hx hb dX6_obstacleThere_23 rfl (lv_at hl 1 rfl) ?_
    refine li_iald (q0 := 3) (t0 := 0) (g := ln) hx hb hK hP rfl rfl (by omega) (by omega) (ib_i (by omega) (by omega)) dX6_obstacleThere_24 ?_
    refine li_add hx hb dX6_obstacleThere_25 ?_
    refine li_bipush hx hb dX6_obstacleThere_26 (by decide) ?_
    refine li_icmp_le (tgt := 33) hx hb dX6_obstacleThere_28 (by decide) (ib_i (by omega) (by omega)) (by decide) (fun c_28 => ?_) (fun c_28 => ?_)
    · refine lv_iload_n hx hb dX6_obstacleThere_33 rfl (lv_at hl 2 rfl) ?_
      refine lv_aload_n hx hb dX6_obstacleThere_34 rfl (lv_at hl 0 rfl) ?_
      refine li_get (ci := 6) (v := .int (iI n)) (C := RX6) (T := TX6) (N := 11) (q0 := 0) (k := 0) hx hb hts hin_X6 hown hK hP rfl rfl (by decide) hf_26 rfl rfl dX6_obstacleThere_35 ?_
      refine li_const hx hb dX6_obstacleThere_38 ?_
      refine li_add hx hb dX6_obstacleThere_39 ?_
      refine li_icmp_ne (tgt := 60) hx hb dX6_obstacleThere_40 (by decide) (ib_i (by omega) (by omega)) (ib_i (by omega) (by omega)) (fun c_40 => ?_) (fun c_40 => ?_)
      · refine li_const hx hb dX6_obstacleThere_60 ?_
        exact li_iret () hx hb hr hlocks hK hP hD hS dX6_obstacleThere_61 hQ rfl (congrArg iI (by first | (exfalso; omega) | (unfold obI; repeat (first | rw [if_pos (by omega)] | rw [if_neg (by omega)]))))
      · refine lv_aload_n hx hb dX6_obstacleThere_43 rfl (lv_at hl 0 rfl) ?_
        refine cl_i0 (isC := [0, 1, 2, 3, 4]) (isR := []) (isN := [0, 1, 2, 3, 4]) (wr := []) (wn := cMd cI n L a rn sp cnt th (rowF w op tn pl en kd nb) as ln dr M0 M1 M2 M3 M4) (As := []) (rest := []) (r := w.1 / a) (ci := 6) (q0 := 0) ⟨hx, hb, hml, hown, hts⟩ (c_X6_depth n L a rn sp cnt th w op tn pl en kd nb as ln dr M0 M1 M2 M3 M4 (by first | assumption | omega) (by first | assumption | omega) (by first | assumption | omega) (by first | assumption | omega)) (cwV 0 hts gX6_obstacleThere_X6_depth rfl rfl rfl (by decide +kernel) ⟨Nat.le_of_ble_eq_true rfl, Nat.le_of_ble_eq_true rfl⟩) hK hNW hP hD hS hA rfl rfl rfl rfl (by decide) rfl rfl rfl rfl rfl rfl hl.1 rfl (Nat.le_of_ble_eq_true rfl) dX6_obstacleThere_44 ⟨Nat.zero_le _, Nat.zero_le _⟩ (fun H locs hP hD hS => ?_)
        refine lv_aload_n hx hb dX6_obstacleThere_47 rfl (lv_at hl 0 rfl) ?_
        refine li_get (ci := 6) (v := .ref M4) (C := RX6) (T := TX6) (N := 11) (q0 := 0) (k := 8) hx hb hts hin_X6 hown hK hP rfl rfl (by decide) hf_19 rfl rfl dX6_obstacleThere_48 ?_
        refine lv_iload_n hx hb dX6_obstacleThere_51 rfl (lv_at hl 1 rfl) ?_
        refine li_iald (q0 := 4) (t0 := 0) (g := dr) hx hb hK hP rfl rfl (by omega) (by omega) (ib_i (by omega) (by omega)) dX6_obstacleThere_52 ?_
        refine li_icmp_ge (tgt := 60) hx hb dX6_obstacleThere_53 (by decide) (ib_i (by omega) (by omega)) (ib_i (by omega) (by omega)) (fun c_53 => ?_) (fun c_53 => ?_)
        · refine li_const hx hb dX6_obstacleThere_60 ?_
          exact li_iret () hx hb hr hlocks hK hP hD hS dX6_obstacleThere_61 hQ rfl (congrArg iI (by first | (exfalso; omega) | (unfold obI; repeat (first | rw [if_pos (by omega)] | rw [if_neg (by omega)]))))
        · refine li_const hx hb dX6_obstacleThere_56 ?_
          refine lv_goto (tgt := 61) hx hb dX6_obstacleThere_57 (by decide) ?_
          exact li_iret () hx hb hr hlocks hK hP hD hS dX6_obstacleThere_61 hQ rfl (congrArg iI (by first | (exfalso; omega) | (unfold obI; repeat (first | rw [if_pos (by omega)] | rw [if_neg (by omega)]))))
    · refine li_const hx hb dX6_obstacleThere_31 ?_
      exact li_iret () hx hb hr hlocks hK hP hD hS dX6_obstacleThere_32 hQ rfl (congrArg iI (by first | (exfalso; omega) | (unfold obI; repeat (first | rw [if_pos (by omega)] | rw [if_neg (by omega)]))))

set_option maxRecDepth 100000 in
set_option maxHeartbeats 4000000 in
theorem c_X6_obstacleToMove {l : Launch} {D : va_G} {cI cZ cJ : ClassId} (n : Int) (L : Int) (a : Int) (rn : Int) (sp : Int) (cnt : Int) (th : Int) (w : Wt) (op : Int → Int) (tn : Int → Int) (pl : Int → Int) (en : Int) (kd : Int → Int) (nb : Int → Int) (as : Int → Int) (ln : Int → Int) (dr : Int → Int) (M0 M1 M2 M3 M4 : Nat) (b : Int) (up : Int) (hn : 1 ≤ n ∧ n ≤ 6) (hL : 5 ≤ L ∧ L ≤ 40) (ha : 1 ≤ a ∧ a ≤ 50) (hw : WI n L a w) (hop : opB op) (hoz : ∀ g, n < g → op g = 0) (hcnt : 0 ≤ cnt ∧ cnt ≤ 10) (hbt : 0 ≤ b ∧ b < cnt) (hln : lnB ln) (hdr : lnB dr) (hpi : plI n pl) (hup : up = 0 ∨ up = 1) : Di l yX6_obstacleToMove wsX6_obstacleToMove 6 [.ref M0, .int (iI b), .int (iI up)] D (ty3 cI cZ cJ) (cMd cI n L a rn sp cnt th (rowF w op tn pl en kd nb) as ln dr M0 M1 M2 M3 M4) (mvO n a w op cnt ln dr pl b up) (cMd cI n L a rn sp cnt th (rowF w op tn pl en kd nb) as ln dr M0 M1 M2 M3 M4) := by
  refine ct_i (plainFor_of_name (by decide)) rfl (Nat.le_of_ble_eq_true rfl) ?_
  intro p e s mI args below meth c_0 ls A hx hb hr hml hts hown hlocks hin hA hP hK hD hNW hS hl Q hQ
  have hown : s.vm.findClass RX6 = some mI.cls := hown
  have hl : lv_has ls 4 [(0, .ref M0), (1, .int (iI b)), (2, .int (iI up))] := hl
  have hp := hpi b
  have hpn : (up = 0 ∧ plN pl b up = pl b - 1) ∨ (up = 1 ∧ plN pl b up = pl b + 1) := by unfold plN; split <;> omega
  have hgt : gtA (pl b) (plN pl b up) ≤ pl b ∧ gtA (pl b) (plN pl b up) ≤ plN pl b up ∧ (gtA (pl b) (plN pl b up) = pl b ∨ gtA (pl b) (plN pl b up) = plN pl b up) := by unfold gtA; split <;> omega
  refine lv_aload_n hx hb dX6_obstacleToMove_0 rfl (lv_at hl 0 rfl) ?_
  refine lv_iload_n hx hb dX6_obstacleToMove_1 rfl (lv_at hl 1 rfl) ?_
  refine lv_iload_n hx hb dX6_obstacleToMove_2 rfl (lv_at hl 2 rfl) ?_
  refine cl_i0 (isC := [0, 1, 2, 3, 4]) (isR := []) (isN := [0, 1, 2, 3, 4]) (wr := []) (wn := cMd cI n L a rn sp cnt th (rowF w op tn pl en kd nb) as ln dr M0 M1 M2 M3 M4) (As := [.int (iI b), .int (iI up)]) (rest := []) (r := plN pl b up) (ci := 6) (q0 := 0) ⟨hx, hb, hml, hown, hts⟩ (c_X6_target n L a rn sp cnt th w op tn pl en kd nb as ln dr M0 M1 M2 M3 M4 b up (by first | assumption | omega) (by first | assumption | omega) (by first | assumption | omega)) (cwV 2 hts gX6_obstacleToMove_X6_target rfl rfl rfl (by decide +kernel) ⟨Nat.le_of_ble_eq_true rfl, Nat.le_of_ble_eq_true rfl⟩) hK hNW hP hD hS hA rfl rfl rfl rfl (by decide) rfl rfl rfl rfl rfl rfl hl.1 rfl (Nat.le_of_ble_eq_true rfl) dX6_obstacleToMove_3 ⟨Nat.zero_le _, Nat.zero_le _⟩ (fun H locs hP hD hS => ?_)
  refine lv_istore_n (lv' := [(3, .int (iI (plN pl b up))), (0, .ref M0), (1, .int (iI b)), (2, .int (iI up))]) hx hb dX6_obstacleToMove_6 rfl hl (by decide) rfl (fun ls hl => ?_)
  refine lv_aload_n hx hb dX6_obstacleToMove_7 rfl (lv_at hl 1 rfl) ?_
  refine lv_iload_n hx hb dX6_obstacleToMove_8 rfl (lv_at hl 0 rfl) ?_
  refine cl_i0 (isC := [0, 1, 2, 3, 4]) (isR := []) (isN := [0, 1, 2, 3, 4]) (wr := []) (wn := cMd cI n L a rn sp cnt th (rowF w op tn pl en kd nb) as ln dr M0 M1 M2 M3 M4) (As := [.int (iI (plN pl b up))]) (rest := []) (r := bz (0 ≤ (plN pl b up) ∧ (plN pl b up) ≤ n + 1)) (ci := 6) (q0 := 0) ⟨hx, hb, hml, hown, hts⟩ (c_X6_isPlace n L a rn sp cnt th w op tn pl en kd nb as ln dr M0 M1 M2 M3 M4 (plN pl b up) (by first | assumption | omega) (by first | assumption | omega) (by first | assumption | omega) (by first | assumption | omega)) (cwV 1 hts gX6_obstacleToMove_X6_isPlace rfl rfl rfl (by decide +kernel) ⟨Nat.le_of_ble_eq_true rfl, Nat.le_of_ble_eq_true rfl⟩) hK hNW hP hD hS hA rfl rfl rfl rfl (by decide) rfl rfl rfl rfl rfl rfl hl.1 rfl (Nat.le_of_ble_eq_true rfl) dX6_obstacleToMove_9 ⟨Nat.zero_le _, Nat.zero_le _⟩ (fun H locs hP hD hS => ?_)
  refine li_ifb_ne (tgt := 17) hx hb dX6_obstacleToMove_12 (by decide) (fun c_12 => ?_) (fun c_12 => ?_)
  · refine lv_aload_n hx hb dX6_obstacleToMove_17 rfl (lv_at hl 1 rfl) ?_
    refine lv_aload_n hx hb dX6_obstacleToMove_18 rfl (lv_at hl 1 rfl) ?_
    refine lv_iload_n hx hb dX6_obstacleToMove_19 rfl (lv_at hl 2 rfl) ?_
    refine lv_iload_n hx hb dX6_obstacleToMove_20 rfl (lv_at hl 3 rfl) ?_
    refine cl_i0 (isC := [0, 1, 2, 3, 4]) (isR := []) (isN := [0, 1, 2, 3, 4]) (wr := []) (wn := cMd cI n L a rn sp cnt th (rowF w op tn pl en kd nb) as ln dr M0 M1 M2 M3 M4) (As := [.int (iI b), .int (iI up)]) (rest := [.ref M0]) (r := gtA (pl b) (plN pl b up)) (ci := 6) (q0 := 0) ⟨hx, hb, hml, hown, hts⟩ (c_X6_gateOf n L a rn sp cnt th w op tn pl en kd nb as ln dr M0 M1 M2 M3 M4 b up (by first | assumption | omega) (by first | assumption | omega) (by first | assumption | omega)) (cwV 2 hts gX6_obstacleToMove_X6_gateOf rfl rfl rfl (by decide +kernel) ⟨Nat.le_of_ble_eq_true rfl, Nat.le_of_ble_eq_true rfl⟩) hK hNW hP hD hS hA rfl rfl rfl rfl (by decide) rfl rfl rfl rfl rfl rfl hl.1 rfl (Nat.le_of_ble_eq_true rfl) dX6_obstacleToMove_21 ⟨Nat.zero_le _, Nat.zero_le _⟩ (fun H locs hP hD hS => ?_)
    refine cl_i0 (isC := [0, 1, 2, 3, 4]) (isR := []) (isN := [0, 1, 2, 3, 4]) (wr := []) (wn := cMd cI n L a rn sp cnt th (rowF w op tn pl en kd nb) as ln dr M0 M1 M2 M3 M4) (As := [.int (iI (gtA (pl b) (plN pl b up)))]) (rest := []) (r := bz (isO op (gtA (pl b) (plN pl b up)) = true)) (ci := 6) (q0 := 0) ⟨hx, hb, hml, hown, hts⟩ (c_X6_isOpenGate n L a rn sp cnt th w op tn pl en kd nb as ln dr M0 M1 M2 M3 M4 (gtA (pl b) (plN pl b up)) (by first | assumption | omega) (by first | assumption | omega) (by first | assumption | omega) (by first | assumption | omega) (by first | assumption | omega) (by first | assumption | omega)) (cwV 1 hts gX6_obstacleToMove_X6_isOpenGate rfl rfl rfl (by decide +kernel) ⟨Nat.le_of_ble_eq_true rfl, Nat.le_of_ble_eq_true rfl⟩) hK hNW hP hD hS hA rfl rfl rfl rfl (by decide) rfl rfl rfl rfl rfl rfl hl.1 rfl (Nat.le_of_ble_eq_true rfl) dX6_obstacleToMove_24 ⟨Nat.zero_le _, Nat.zero_le _⟩ (fun H locs hP hD hS => ?_)
    refine li_ifb_eq (tgt := 39) hx hb dX6_obstacleToMove_27 (by decide) (fun c_27 => ?_) (fun c_27 => ?_)
    · refine li_const hx hb dX6_obstacleToMove_39 ?_
      exact li_iret () hx hb hr hlocks hK hP hD hS dX6_obstacleToMove_40 hQ rfl (congrArg iI (by unfold mvO; first | (rw [if_pos (by omega)]; done) | (rw [if_neg (by omega)]; first | (rw [if_pos (by assumption)]; done) | (rw [if_neg (by assumption)]; done))))
    · refine lv_aload_n hx hb dX6_obstacleToMove_30 rfl (lv_at hl 1 rfl) ?_
      refine lv_iload_n hx hb dX6_obstacleToMove_31 rfl (lv_at hl 2 rfl) ?_
      refine lv_iload_n hx hb dX6_obstacleToMove_32 rfl (lv_at hl 0 rfl) ?_
      refine cl_i0 (isC := [0, 1, 2, 3, 4]) (isR := []) (isN := [0, 1, 2, 3, 4]) (wr := []) (wn := cMd cI n L a rn sp cnt th (rowF w op tn pl en kd nb) as ln dr M0 M1 M2 M3 M4) (As := [.int (iI b), .int (iI (plN pl b up))]) (rest := []) (r := obI n a w cnt ln dr pl (plN pl b up) b) (ci := 6) (q0 := 0) ⟨hx, hb, hml, hown, hts⟩ (c_X6_obstacleThere n L a rn sp cnt th w op tn pl en kd nb as ln dr M0 M1 M2 M3 M4 b (plN pl b up) (by first | assumption | omega) (by first | assumption | omega) (by first | assumption | omega) (by first | assumption | omega) (by first | assumption | omega) (by first | assumption | omega) (by first | assumption | omega) (by first | assumption | omega) (by first | assumption | omega) (by first | assumption | omega)) (cwV 2 hts gX6_obstacleToMove_X6_obstacleThere rfl rfl rfl (by decide +kernel) ⟨Nat.le_of_ble_eq_true rfl, Nat.le_of_ble_eq_true rfl⟩) hK hNW hP hD hS hA rfl rfl rfl rfl (by decide) rfl rfl rfl rfl rfl rfl hl.1 rfl (Nat.le_of_ble_eq_true rfl) dX6_obstacleToMove_33 ⟨Nat.zero_le _, Nat.zero_le _⟩ (fun H locs hP hD hS => ?_)
      refine lv_goto (tgt := 40) hx hb dX6_obstacleToMove_36 (by decide) ?_
      exact li_iret () hx hb hr hlocks hK hP hD hS dX6_obstacleToMove_40 hQ rfl (congrArg iI (by unfold mvO; first | (rw [if_pos (by omega)]; done) | (rw [if_neg (by omega)]; first | (rw [if_pos (by assumption)]; done) | (rw [if_neg (by assumption)]; done))))
  · refine li_const hx hb dX6_obstacleToMove_15 ?_
    exact li_iret () hx hb hr hlocks hK hP hD hS dX6_obstacleToMove_16 hQ rfl (congrArg iI (by unfold mvO; first | (rw [if_pos (by omega)]; done) | (rw [if_neg (by omega)]; first | (rw [if_pos (by assumption)]; done) | (rw [if_neg (by assumption)]; done))))

set_option maxRecDepth 100000 in
set_option maxHeartbeats 4000000 in
theorem c_X6_climb {l : Launch} {D : va_G} {cI cZ cJ : ClassId} (n : Int) (L : Int) (a : Int) (rn : Int) (sp : Int) (cnt : Int) (th : Int) (w : Wt) (op : Int → Int) (tn : Int → Int) (pl : Int → Int) (en : Int) (kd : Int → Int) (nb : Int → Int) (as : Int → Int) (ln : Int → Int) (dr : Int → Int) (M0 M1 M2 M3 M4 : Nat) (b : Int) (up : Int) (hn : 1 ≤ n ∧ n ≤ 6) (hL : 5 ≤ L ∧ L ≤ 40) (ha : 1 ≤ a ∧ a ≤ 50) (hw : WI n L a w) (hcnt : 0 ≤ cnt ∧ cnt ≤ 10) (hbt : 0 ≤ b ∧ b < cnt) (hln : lnB ln) (hdr : lnB dr) (hpi : plI n pl) (hup : up = 0 ∨ up = 1) (hen : en = 0) (hmv : 0 ≤ plN pl b up ∧ plN pl b up ≤ n + 1) : Di l yX6_climb wsX6_climb 22 [.ref M0, .int (iI b), .int (iI up)] D (ty3 cI cZ cJ) (cMd cI n L a rn sp cnt th (rowF w op tn pl en kd nb) as ln dr M0 M1 M2 M3 M4) (bz ((lvX n L a (gtA (pl b) (plN pl b up)) w).1 = true ∧ obI n a (lvX n L a (gtA (pl b) (plN pl b up)) w).2 cnt ln dr pl (plN pl b up) b = 0)) (cMd cI n L a rn sp cnt th (rowF ((lvX n L a (gtA (pl b) (plN pl b up)) w).2) op tn (if (lvX n L a (gtA (pl b) (plN pl b up)) w).1 = true ∧ obI n a (lvX n L a (gtA (pl b) (plN pl b up)) w).2 cnt ln dr pl (plN pl b up) b = 0 then upZ pl b (plN pl b up) else pl) (if (lvX n L a (gtA (pl b) (plN pl b up)) w).1 = true ∧ obI n a (lvX n L a (gtA (pl b) (plN pl b up)) w).2 cnt ln dr pl (plN pl b up) b = 0 then en else cef (lvX n L a (gtA (pl b) (plN pl b up)) w).1 n (gtA (pl b) (plN pl b up)) en) (if (lvX n L a (gtA (pl b) (plN pl b up)) w).1 = true ∧ obI n a (lvX n L a (gtA (pl b) (plN pl b up)) w).2 cnt ln dr pl (plN pl b up) b = 0 then kd else ckf (lvX n L a (gtA (pl b) (plN pl b up)) w).1 (obI n a (lvX n L a (gtA (pl b) (plN pl b up)) w).2 cnt ln dr pl (plN pl b up) b) n (gtA (pl b) (plN pl b up)) en kd) (if (lvX n L a (gtA (pl b) (plN pl b up)) w).1 = true ∧ obI n a (lvX n L a (gtA (pl b) (plN pl b up)) w).2 cnt ln dr pl (plN pl b up) b = 0 then nb else cnf (lvX n L a (gtA (pl b) (plN pl b up)) w).1 n (gtA (pl b) (plN pl b up)) en nb)) as ln dr M0 M1 M2 M3 M4) := by
  refine ct_i (plainFor_of_name (by decide)) rfl (Nat.le_of_ble_eq_true rfl) ?_
  intro p e s mI args below meth c_0 ls A hx hb hr hml hts hown hlocks hin hA hP hK hD hNW hS hl Q hQ
  have hown : s.vm.findClass RX6 = some mI.cls := hown
  have hl : lv_has ls 8 [(0, .ref M0), (1, .int (iI b)), (2, .int (iI up))] := hl
  have hin_X6 : ∀ w ∈ wsX60, w ∈ wsX6_climb := by decide +kernel
  have hf_9 := hts (.fieldLink RX6 9 "LockStaircaseModel" "row" "[I") (by decide +kernel)
  have hpb := hpi b
  have hpn : (up = 0 ∧ plN pl b up = pl b - 1) ∨ (up = 1 ∧ plN pl b up = pl b + 1) := by unfold plN; split <;> omega
  have hgt : gtA (pl b) (plN pl b up) ≤ pl b ∧ gtA (pl b) (plN pl b up) ≤ plN pl b up ∧ (gtA (pl b) (plN pl b up) = pl b ∨ gtA (pl b) (plN pl b up) = plN pl b up) := by unfold gtA; split <;> omega
  have hw3 := lvX_WI hn hL ha (g := gtA (pl b) (plN pl b up)) (by omega) hw
  have ho := obI_b n a (lvX n L a (gtA (pl b) (plN pl b up)) w).2 cnt ln dr pl (plN pl b up) b
  refine lv_aload_n hx hb dX6_climb_0 rfl (lv_at hl 0 rfl) ?_
  refine lv_iload_n hx hb dX6_climb_1 rfl (lv_at hl 1 rfl) ?_
  refine lv_iload_n hx hb dX6_climb_2 rfl (lv_at hl 2 rfl) ?_
  refine cl_i0 (isC := [0, 1, 2, 3, 4]) (isR := []) (isN := [0, 1, 2, 3, 4]) (wr := []) (wn := cMd cI n L a rn sp cnt th (rowF w op tn pl en kd nb) as ln dr M0 M1 M2 M3 M4) (As := [.int (iI b), .int (iI up)]) (rest := []) (r := gtA (pl b) (plN pl b up)) (ci := 6) (q0 := 0) ⟨hx, hb, hml, hown, hts⟩ (c_X6_gateOf n L a rn sp cnt th w op tn pl en kd nb as ln dr M0 M1 M2 M3 M4 b up (by first | assumption | omega) (by first | assumption | omega) (by first | assumption | omega)) (cwV 2 hts gX6_climb_X6_gateOf rfl rfl rfl (by decide +kernel) ⟨Nat.le_of_ble_eq_true rfl, Nat.le_of_ble_eq_true rfl⟩) hK hNW hP hD hS hA rfl rfl rfl rfl (by decide) rfl rfl rfl rfl rfl rfl hl.1 rfl (Nat.le_of_ble_eq_true rfl) dX6_climb_3 ⟨Nat.zero_le _, Nat.zero_le _⟩ (fun H locs hP hD hS => ?_)
  refine lv_istore_n (lv' := [(3, .int (iI (gtA (pl b) (plN pl b up)))), (0, .ref M0), (1, .int (iI b)), (2, .int (iI up))]) hx hb dX6_climb_6 rfl hl (by decide) rfl (fun ls hl => ?_)
  refine lv_aload_n hx hb dX6_climb_7 rfl (lv_at hl 1 rfl) ?_
  refine lv_iload_n hx hb dX6_climb_8 rfl (lv_at hl 0 rfl) ?_
  refine cl_i0 (isC := [0, 1, 2, 3, 4]) (isR := []) (isN := [0, 1, 2, 3, 4]) (wr := []) (wn := cMd cI n L a rn sp cnt th (rowF ((lvX n L a (gtA (pl b) (plN pl b up)) w).2) op tn pl (if (lvX n L a (gtA (pl b) (plN pl b up)) w).1 = true then en else lne n (gtA (pl b) (plN pl b up)) en) (if (lvX n L a (gtA (pl b) (plN pl b up)) w).1 = true then kd else lkd n (gtA (pl b) (plN pl b up)) en kd) (if (lvX n L a (gtA (pl b) (plN pl b up)) w).1 = true then nb else lnb n (gtA (pl b) (plN pl b up)) en nb)) as ln dr M0 M1 M2 M3 M4) (As := [.int (iI (gtA (pl b) (plN pl b up)))]) (rest := []) (r := bz ((lvX n L a (gtA (pl b) (plN pl b up)) w).1 = true)) (ci := 6) (q0 := 0) ⟨hx, hb, hml, hown, hts⟩ (c_X6_levelGate n L a rn sp cnt th w op tn pl en kd nb as ln dr M0 M1 M2 M3 M4 (gtA (pl b) (plN pl b up)) (by first | assumption | omega) (by first | assumption | omega) (by first | assumption | omega) (by first | assumption | omega) (by first | assumption | omega) (by first | assumption | omega)) (cwV 1 hts gX6_climb_X6_levelGate rfl rfl rfl (by decide +kernel) ⟨Nat.le_of_ble_eq_true rfl, Nat.le_of_ble_eq_true rfl⟩) hK hNW hP hD hS hA rfl rfl rfl rfl (by decide) rfl rfl rfl rfl rfl rfl hl.1 rfl (Nat.le_of_ble_eq_true rfl) dX6_climb_9 ⟨Nat.zero_le _, Nat.zero_le _⟩ (fun H locs hP hD hS => ?_)
  refine lv_istore (lv' := [(4, .int (iI (bz ((lvX n L a (gtA (pl b) (plN pl b up)) w).1 = true)))), (3, .int (iI (gtA (pl b) (plN pl b up)))), (0, .ref M0), (1, .int (iI b)), (2, .int (iI up))]) hx hb dX6_climb_12 hl (by decide) rfl (fun ls hl => ?_)
  refine lv_aload_n hx hb dX6_climb_14 rfl (lv_at hl 2 rfl) ?_
  refine lv_iload_n hx hb dX6_climb_15 rfl (lv_at hl 3 rfl) ?_
  refine lv_iload_n hx hb dX6_climb_16 rfl (lv_at hl 4 rfl) ?_
  refine cl_i0 (isC := [0, 1, 2, 3, 4]) (isR := []) (isN := [0, 1, 2, 3, 4]) (wr := []) (wn := cMd cI n L a rn sp cnt th (rowF ((lvX n L a (gtA (pl b) (plN pl b up)) w).2) op tn pl (if (lvX n L a (gtA (pl b) (plN pl b up)) w).1 = true then en else lne n (gtA (pl b) (plN pl b up)) en) (if (lvX n L a (gtA (pl b) (plN pl b up)) w).1 = true then kd else lkd n (gtA (pl b) (plN pl b up)) en kd) (if (lvX n L a (gtA (pl b) (plN pl b up)) w).1 = true then nb else lnb n (gtA (pl b) (plN pl b up)) en nb)) as ln dr M0 M1 M2 M3 M4) (As := [.int (iI b), .int (iI up)]) (rest := []) (r := plN pl b up) (ci := 6) (q0 := 0) ⟨hx, hb, hml, hown, hts⟩ (c_X6_target n L a rn sp cnt th ((lvX n L a (gtA (pl b) (plN pl b up)) w).2) op tn pl (if (lvX n L a (gtA (pl b) (plN pl b up)) w).1 = true then en else lne n (gtA (pl b) (plN pl b up)) en) (if (lvX n L a (gtA (pl b) (plN pl b up)) w).1 = true then kd else lkd n (gtA (pl b) (plN pl b up)) en kd) (if (lvX n L a (gtA (pl b) (plN pl b up)) w).1 = true then nb else lnb n (gtA (pl b) (plN pl b up)) en nb) as ln dr M0 M1 M2 M3 M4 b up (by first | assumption | omega) (by first | assumption | omega) (by first | assumption | omega)) (cwV 2 hts gX6_climb_X6_target rfl rfl rfl (by decide +kernel) ⟨Nat.le_of_ble_eq_true rfl, Nat.le_of_ble_eq_true rfl⟩) hK hNW hP hD hS hA rfl rfl rfl rfl (by decide) rfl rfl rfl rfl rfl rfl hl.1 rfl (Nat.le_of_ble_eq_true rfl) dX6_climb_17 ⟨Nat.zero_le _, Nat.zero_le _⟩ (fun H locs hP hD hS => ?_)
  refine lv_istore (lv' := [(5, .int (iI (plN pl b up))), (4, .int (iI (bz ((lvX n L a (gtA (pl b) (plN pl b up)) w).1 = true)))), (3, .int (iI (gtA (pl b) (plN pl b up)))), (0, .ref M0), (1, .int (iI b)), (2, .int (iI up))]) hx hb dX6_climb_20 hl (by decide) rfl (fun ls hl => ?_)
  refine lv_iload hx hb dX6_climb_22 (lv_at hl 1 rfl) ?_
  refine li_ifb_eq (tgt := 37) hx hb dX6_climb_24 (by decide) (fun c_24 => ?_) (fun c_24 => ?_)
  · simp only [if_neg c_24] at hP hD
    refine li_const hx hb dX6_climb_37 ?_
    refine lv_istore (lv' := [(6, .int (iI 0)), (5, .int (iI (plN pl b up))), (4, .int (iI (bz ((lvX n L a (gtA (pl b) (plN pl b up)) w).1 = true)))), (3, .int (iI (gtA (pl b) (plN pl b up)))), (0, .ref M0), (1, .int (iI b)), (2, .int (iI up))]) hx hb dX6_climb_38 hl (by decide) rfl (fun ls hl => ?_)
    refine lv_iload hx hb dX6_climb_40 (lv_at hl 2 rfl) ?_
    refine li_top (b := 0) (bz_f c_24) ?_
    refine li_if_eq_t (tgt := 63) hx hb dX6_climb_42 (by decide) (by decide) (by decide) ?_
    refine lv_iload hx hb dX6_climb_63 (lv_at hl 2 rfl) ?_
    refine li_top (b := 0) (bz_f c_24) ?_
    refine li_if_eq_t (tgt := 81) hx hb dX6_climb_65 (by decide) (by decide) (by decide) ?_
    refine li_const hx hb dX6_climb_81 ?_
    refine lv_istore (lv' := [(7, .int (iI 0)), (6, .int (iI 0)), (5, .int (iI (plN pl b up))), (4, .int (iI (bz ((lvX n L a (gtA (pl b) (plN pl b up)) w).1 = true)))), (3, .int (iI (gtA (pl b) (plN pl b up)))), (0, .ref M0), (1, .int (iI b)), (2, .int (iI up))]) hx hb dX6_climb_82 hl (by decide) rfl (fun ls hl => ?_)
    have hl9 : ¬ (lvX n L a (gtA (pl b) (plN pl b up)) w).1 = true → 0 ≤ lne n (gtA (pl b) (plN pl b up)) en ∧ lne n (gtA (pl b) (plN pl b up)) en ≤ 7 := fun q => by
      have hg1 : 1 ≤ gtA (pl b) (plN pl b up) := by
        rcases Int.lt_or_le 0 (gtA (pl b) (plN pl b up)) with h | h
        · omega
        · exact absurd (lvX_0 hn (by omega)) q
      rw [hen]; exact lne_b hn (by omega)
    refine lv_aload_n hx hb dX6_climb_84 rfl (lv_at hl 5 rfl) ?_
    refine li_bipush hx hb dX6_climb_85 (by decide) ?_
    refine lv_iload_n hx hb dX6_climb_87 rfl (lv_at hl 4 rfl) ?_
    refine cl_v0 (isC := [0, 1, 2, 3, 4]) (isR := []) (isN := [0, 1, 2, 3, 4]) (wr := []) (wn := cMd cI n L a rn sp cnt th (rowF ((lvX n L a (gtA (pl b) (plN pl b up)) w).2) op tn pl ((lne n (gtA (pl b) (plN pl b up)) en) + 1) (shZ (lkd n (gtA (pl b) (plN pl b up)) en kd) (lne n (gtA (pl b) (plN pl b up)) en) 6) (shZ (lnb n (gtA (pl b) (plN pl b up)) en nb) (lne n (gtA (pl b) (plN pl b up)) en) (gtA (pl b) (plN pl b up)))) as ln dr M0 M1 M2 M3 M4) (As := [.int (iI 6), .int (iI (gtA (pl b) (plN pl b up)))]) (rest := []) (ci := 6) (q0 := 0) ⟨hx, hb, hml, hown, hts⟩ (c_X6_report n L a rn sp cnt th ((lvX n L a (gtA (pl b) (plN pl b up)) w).2) op tn pl (lne n (gtA (pl b) (plN pl b up)) en) (lkd n (gtA (pl b) (plN pl b up)) en kd) (lnb n (gtA (pl b) (plN pl b up)) en nb) as ln dr M0 M1 M2 M3 M4 6 (gtA (pl b) (plN pl b up)) (by first | omega | exact hl9 (by assumption))) (cwV 2 hts gX6_climb_X6_report rfl rfl rfl (by decide +kernel) ⟨Nat.le_of_ble_eq_true rfl, Nat.le_of_ble_eq_true rfl⟩) hK hNW hP hD hS hA rfl rfl rfl rfl (by decide) rfl rfl rfl rfl rfl rfl hl.1 rfl (Nat.le_of_ble_eq_true rfl) dX6_climb_88 ⟨Nat.zero_le _, Nat.zero_le _⟩ (fun H locs hP hD hS => ?_)
    refine li_const hx hb dX6_climb_91 ?_
    exact li_zret () hx hb hr hlocks hK hP hD hS (by decide) dX6_climb_92 hQ (by first | (simp only [if_neg (fun h : (lvX n L a (gtA (pl b) (plN pl b up)) w).1 = true ∧ obI n a (lvX n L a (gtA (pl b) (plN pl b up)) w).2 cnt ln dr pl (plN pl b up) b = 0 => c_47 h.2)]; unfold ckf cnf cef; simp only [if_pos c_24] <;> rfl) | (simp only [if_neg (fun h : (lvX n L a (gtA (pl b) (plN pl b up)) w).1 = true ∧ obI n a (lvX n L a (gtA (pl b) (plN pl b up)) w).2 cnt ln dr pl (plN pl b up) b = 0 => c_24 h.1)]; unfold ckf cnf cef; simp only [if_neg c_24] <;> rfl)) (congrArg iI (by exact (bz_f (fun h => by first | exact absurd h.1 (by assumption) | exact absurd h.2 (by assumption))).symm))
  · simp only [if_pos c_24] at hP hD
    refine lv_aload_n hx hb dX6_climb_27 rfl (lv_at hl 3 rfl) ?_
    refine lv_iload_n hx hb dX6_climb_28 rfl (lv_at hl 4 rfl) ?_
    refine lv_iload hx hb dX6_climb_29 (lv_at hl 0 rfl) ?_
    refine cl_i0 (isC := [0, 1, 2, 3, 4]) (isR := []) (isN := [0, 1, 2, 3, 4]) (wr := []) (wn := cMd cI n L a rn sp cnt th (rowF ((lvX n L a (gtA (pl b) (plN pl b up)) w).2) op tn pl en kd nb) as ln dr M0 M1 M2 M3 M4) (As := [.int (iI b), .int (iI (plN pl b up))]) (rest := []) (r := obI n a ((lvX n L a (gtA (pl b) (plN pl b up)) w).2) cnt ln dr pl (plN pl b up) b) (ci := 6) (q0 := 0) ⟨hx, hb, hml, hown, hts⟩ (c_X6_obstacleThere n L a rn sp cnt th ((lvX n L a (gtA (pl b) (plN pl b up)) w).2) op tn pl en kd nb as ln dr M0 M1 M2 M3 M4 b (plN pl b up) (by first | assumption | omega) (by first | assumption | omega) (by first | assumption | omega) (by exact hw3) (by first | assumption | omega) (by first | assumption | omega) (by first | assumption | omega) (by first | assumption | omega) (by first | assumption | omega) (by first | assumption | omega)) (cwV 2 hts gX6_climb_X6_obstacleThere rfl rfl rfl (by decide +kernel) ⟨Nat.le_of_ble_eq_true rfl, Nat.le_of_ble_eq_true rfl⟩) hK hNW hP hD hS hA rfl rfl rfl rfl (by decide) rfl rfl rfl rfl rfl rfl hl.1 rfl (Nat.le_of_ble_eq_true rfl) dX6_climb_31 ⟨Nat.zero_le _, Nat.zero_le _⟩ (fun H locs hP hD hS => ?_)
    refine lv_goto (tgt := 38) hx hb dX6_climb_34 (by decide) ?_
    refine lv_istore (lv' := [(6, .int (iI (obI n a ((lvX n L a (gtA (pl b) (plN pl b up)) w).2) cnt ln dr pl (plN pl b up) b))), (5, .int (iI (plN pl b up))), (4, .int (iI (bz ((lvX n L a (gtA (pl b) (plN pl b up)) w).1 = true)))), (3, .int (iI (gtA (pl b) (plN pl b up)))), (0, .ref M0), (1, .int (iI b)), (2, .int (iI up))]) hx hb dX6_climb_38 hl (by decide) rfl (fun ls hl => ?_)
    refine lv_iload hx hb dX6_climb_40 (lv_at hl 2 rfl) ?_
    refine li_top (b := 1) (bz_t c_24) ?_
    refine li_if_eq_f (tgt := 63) hx hb dX6_climb_42 (by decide) (by decide) (by decide) ?_
    refine lv_iload hx hb dX6_climb_45 (lv_at hl 0 rfl) ?_
    refine li_if_ne (tgt := 63) hx hb dX6_climb_47 (by decide) (ib_i (by omega) (by omega)) (fun c_47 => ?_) (fun c_47 => ?_)
    · refine lv_iload hx hb dX6_climb_63 (lv_at hl 2 rfl) ?_
      refine li_top (b := 1) (bz_t c_24) ?_
      refine li_if_eq_f (tgt := 81) hx hb dX6_climb_65 (by decide) (by decide) (by decide) ?_
      refine lv_aload_n hx hb dX6_climb_68 rfl (lv_at hl 4 rfl) ?_
      refine lv_iload hx hb dX6_climb_69 (lv_at hl 0 rfl) ?_
      refine cl_i0 (isC := [0, 1, 2, 3, 4]) (isR := []) (isN := [0, 1, 2, 3, 4]) (wr := []) (wn := cMd cI n L a rn sp cnt th (rowF ((lvX n L a (gtA (pl b) (plN pl b up)) w).2) op tn pl (en + 1) (shZ kd en (obI n a ((lvX n L a (gtA (pl b) (plN pl b up)) w).2) cnt ln dr pl (plN pl b up) b)) (shZ nb en (-1))) as ln dr M0 M1 M2 M3 M4) (As := [.int (iI (obI n a ((lvX n L a (gtA (pl b) (plN pl b up)) w).2) cnt ln dr pl (plN pl b up) b))]) (rest := []) (r := 0) (ci := 6) (q0 := 0) ⟨hx, hb, hml, hown, hts⟩ (c_X6_fails n L a rn sp cnt th ((lvX n L a (gtA (pl b) (plN pl b up)) w).2) op tn pl en kd nb as ln dr M0 M1 M2 M3 M4 (obI n a ((lvX n L a (gtA (pl b) (plN pl b up)) w).2) cnt ln dr pl (plN pl b up) b) (by first | assumption | omega)) (cwV 1 hts gX6_climb_X6_fails rfl rfl rfl (by decide +kernel) ⟨Nat.le_of_ble_eq_true rfl, Nat.le_of_ble_eq_true rfl⟩) hK hNW hP hD hS hA rfl rfl rfl rfl (by decide) rfl rfl rfl rfl rfl rfl hl.1 rfl (Nat.le_of_ble_eq_true rfl) dX6_climb_71 ⟨Nat.zero_le _, Nat.zero_le _⟩ (fun H locs hP hD hS => ?_)
      refine li_if_eq_t (tgt := 81) hx hb dX6_climb_74 (by decide) (by decide) (by decide) ?_
      refine li_const hx hb dX6_climb_81 ?_
      refine lv_istore (lv' := [(7, .int (iI 0)), (6, .int (iI (obI n a ((lvX n L a (gtA (pl b) (plN pl b up)) w).2) cnt ln dr pl (plN pl b up) b))), (5, .int (iI (plN pl b up))), (4, .int (iI (bz ((lvX n L a (gtA (pl b) (plN pl b up)) w).1 = true)))), (3, .int (iI (gtA (pl b) (plN pl b up)))), (0, .ref M0), (1, .int (iI b)), (2, .int (iI up))]) hx hb dX6_climb_82 hl (by decide) rfl (fun ls hl => ?_)
      have hl9 : ¬ (lvX n L a (gtA (pl b) (plN pl b up)) w).1 = true → 0 ≤ lne n (gtA (pl b) (plN pl b up)) en ∧ lne n (gtA (pl b) (plN pl b up)) en ≤ 7 := fun q => by
        have hg1 : 1 ≤ gtA (pl b) (plN pl b up) := by
          rcases Int.lt_or_le 0 (gtA (pl b) (plN pl b up)) with h | h
          · omega
          · exact absurd (lvX_0 hn (by omega)) q
        rw [hen]; exact lne_b hn (by omega)
      refine lv_aload_n hx hb dX6_climb_84 rfl (lv_at hl 5 rfl) ?_
      refine li_bipush hx hb dX6_climb_85 (by decide) ?_
      refine lv_iload_n hx hb dX6_climb_87 rfl (lv_at hl 4 rfl) ?_
      refine cl_v0 (isC := [0, 1, 2, 3, 4]) (isR := []) (isN := [0, 1, 2, 3, 4]) (wr := []) (wn := cMd cI n L a rn sp cnt th (rowF ((lvX n L a (gtA (pl b) (plN pl b up)) w).2) op tn pl ((en + 1) + 1) (shZ (shZ kd en (obI n a ((lvX n L a (gtA (pl b) (plN pl b up)) w).2) cnt ln dr pl (plN pl b up) b)) (en + 1) 6) (shZ (shZ nb en (-1)) (en + 1) (gtA (pl b) (plN pl b up)))) as ln dr M0 M1 M2 M3 M4) (As := [.int (iI 6), .int (iI (gtA (pl b) (plN pl b up)))]) (rest := []) (ci := 6) (q0 := 0) ⟨hx, hb, hml, hown, hts⟩ (c_X6_report n L a rn sp cnt th ((lvX n L a (gtA (pl b) (plN pl b up)) w).2) op tn pl (en + 1) (shZ kd en (obI n a ((lvX n L a (gtA (pl b) (plN pl b up)) w).2) cnt ln dr pl (plN pl b up) b)) (shZ nb en (-1)) as ln dr M0 M1 M2 M3 M4 6 (gtA (pl b) (plN pl b up)) (by first | omega | exact hl9 (by assumption))) (cwV 2 hts gX6_climb_X6_report rfl rfl rfl (by decide +kernel) ⟨Nat.le_of_ble_eq_true rfl, Nat.le_of_ble_eq_true rfl⟩) hK hNW hP hD hS hA rfl rfl rfl rfl (by decide) rfl rfl rfl rfl rfl rfl hl.1 rfl (Nat.le_of_ble_eq_true rfl) dX6_climb_88 ⟨Nat.zero_le _, Nat.zero_le _⟩ (fun H locs hP hD hS => ?_)
      refine li_const hx hb dX6_climb_91 ?_
      exact li_zret () hx hb hr hlocks hK hP hD hS (by decide) dX6_climb_92 hQ (by first | (simp only [if_neg (fun h : (lvX n L a (gtA (pl b) (plN pl b up)) w).1 = true ∧ obI n a (lvX n L a (gtA (pl b) (plN pl b up)) w).2 cnt ln dr pl (plN pl b up) b = 0 => c_47 h.2)]; unfold ckf cnf cef; simp only [if_pos c_24] <;> rfl) | (simp only [if_neg (fun h : (lvX n L a (gtA (pl b) (plN pl b up)) w).1 = true ∧ obI n a (lvX n L a (gtA (pl b) (plN pl b up)) w).2 cnt ln dr pl (plN pl b up) b = 0 => c_24 h.1)]; unfold ckf cnf cef; simp only [if_neg c_24] <;> rfl)) (congrArg iI (by exact (bz_f (fun h => by first | exact absurd h.1 (by assumption) | exact absurd h.2 (by assumption))).symm))
    · refine lv_aload_n hx hb dX6_climb_50 rfl (lv_at hl 4 rfl) ?_
      refine li_get (ci := 6) (v := .ref M1) (C := RX6) (T := TX6) (N := 11) (q0 := 0) (k := 5) hx hb hts hin_X6 hown hK hP rfl rfl (by decide) hf_9 rfl rfl dX6_climb_51 ?_
      refine li_bipush hx hb dX6_climb_54 (by decide) ?_
      refine lv_iload_n hx hb dX6_climb_56 rfl (lv_at hl 5 rfl) ?_
      refine li_add hx hb dX6_climb_57 ?_
      refine lv_iload hx hb dX6_climb_58 (lv_at hl 1 rfl) ?_
      refine li_iast (q0 := 1) (t0 := 0) (g := (rowF ((lvX n L a (gtA (pl b) (plN pl b up)) w).2) op tn pl en kd nb)) (w2 := cMd cI n L a rn sp cnt th (rowF ((lvX n L a (gtA (pl b) (plN pl b up)) w).2) op tn (upZ pl b (plN pl b up)) en kd nb) as ln dr M0 M1 M2 M3 M4) hx hb hK hP hD hS rfl rfl (by omega) (by omega) (ib_i (by omega) (by omega)) dX6_climb_60 (by rw [wr_p (c := b) (by omega) (by omega) (by omega)] <;> rfl) (fun H locs hP hD hS => ?_)
      refine li_const hx hb dX6_climb_61 ?_
      exact li_zret () hx hb hr hlocks hK hP hD hS (by decide) dX6_climb_62 hQ (by simp only [if_pos (And.intro c_24 c_47)]) (congrArg iI (by exact (bz_t (And.intro c_24 c_47)).symm))

set_option maxRecDepth 100000 in
set_option maxHeartbeats 4000000 in
theorem c_X6_takeOne {l : Launch} {D : va_G} {cI cZ cJ : ClassId} (n : Int) (L : Int) (a : Int) (rn : Int) (sp : Int) (cnt : Int) (th : Int) (w : Wt) (op : Int → Int) (tn : Int → Int) (pl : Int → Int) (en : Int) (kd : Int → Int) (nb : Int → Int) (as : Int → Int) (ln : Int → Int) (dr : Int → Int) (M0 M1 M2 M3 M4 : Nat) (b : Int) (up : Int) (hn : 1 ≤ n ∧ n ≤ 6) (hL : 5 ≤ L ∧ L ≤ 40) (ha : 1 ≤ a ∧ a ≤ 50) (hw : WI n L a w) (hcnt : 0 ≤ cnt ∧ cnt ≤ 10) (hbt : 0 ≤ b ∧ b < cnt) (hln : lnB ln) (hdr : lnB dr) (hpi : plI n pl) (hup : up = 0 ∨ up = 1) : Di l yX6_takeOne wsX6_takeOne 23 [.ref M0, .int (iI b), .int (iI up)] D (ty3 cI cZ cJ) (cMd cI n L a rn sp cnt th (rowF w op tn pl en kd nb) as ln dr M0 M1 M2 M3 M4) (bz ((brM n L a cnt ln dr b up 7 pl w).2.2.2.2 = -1)) (cMd cI n L a rn sp cnt th (rowF ((brM n L a cnt ln dr b up 7 pl w).2.1) (zrZ op (n + 1)) (zrZ tn (n + 1)) ((brM n L a cnt ln dr b up 7 pl w).1) (ten n (brM n L a cnt ln dr b up 7 pl w).2.2) (tkd n (brM n L a cnt ln dr b up 7 pl w).2.2 kd) (tnb n (brM n L a cnt ln dr b up 7 pl w).2.2 nb)) as ln dr M0 M1 M2 M3 M4) := by
  refine ct_i (plainFor_of_name (by decide)) rfl (Nat.le_of_ble_eq_true rfl) ?_
  intro p e s mI args below meth c_0 ls A hx hb hr hml hts hown hlocks hin hA hP hK hD hNW hS hl Q hQ
  have hown : s.vm.findClass RX6 = some mI.cls := hown
  have hl : lv_has ls 4 [(0, .ref M0), (1, .int (iI b)), (2, .int (iI up))] := hl
  have hin_X6 : ∀ w ∈ wsX60, w ∈ wsX6_takeOne := by decide +kernel
  have hf_26 := hts (.fieldLink RX6 26 "LockStaircaseModel" "chambers" "I") (by decide +kernel)
  have hf_9 := hts (.fieldLink RX6 9 "LockStaircaseModel" "row" "[I") (by decide +kernel)
  refine lv_aload_n hx hb dX6_takeOne_0 rfl (lv_at hl 0 rfl) ?_
  refine li_get (ci := 6) (v := .ref M1) (C := RX6) (T := TX6) (N := 11) (q0 := 0) (k := 5) hx hb hts hin_X6 hown hK hP rfl rfl (by decide) hf_9 rfl rfl dX6_takeOne_1 ?_
  refine li_bipush hx hb dX6_takeOne_4 (by decide) ?_
  refine li_const hx hb dX6_takeOne_6 ?_
  refine li_iast (q0 := 1) (t0 := 0) (g := (rowF w op tn pl en kd nb)) (w2 := cMd cI n L a rn sp cnt th (rowF w op tn pl 0 kd nb) as ln dr M0 M1 M2 M3 M4) hx hb hK hP hD hS rfl rfl (by omega) (by omega) (by decide) dX6_takeOne_7 (by rw [wr_e rfl] <;> rfl) (fun H locs hP hD hS => ?_)
  refine li_const hx hb dX6_takeOne_8 ?_
  refine lv_istore_n (lv' := [(3, .int (iI 0)), (0, .ref M0), (1, .int (iI b)), (2, .int (iI up))]) hx hb dX6_takeOne_9 rfl hl (by decide) rfl (fun ls hl => ?_)
  have loop_10 : ∀ (N : Nat) (g : Int) (tn2 : Int → Int) (op2 : Int → Int), (0 ≤ g ∧ g ≤ n + 1) → (tn2 = zrZ tn g) → (op2 = zrZ op g) → n + 1 - g < (N : Int) → ∀ (H : Heap) (locs : List Loc), va_P D vwCl (cMd cI n L a rn sp cnt th (rowF w op2 tn2 pl 0 kd nb) as ln dr M0 M1 M2 M3 M4) H → va_D A (cMd cI n L a rn sp cnt th (rowF w op2 tn2 pl 0 kd nb) as ln dr M0 M1 M2 M3 M4) → va_S A s.heap H locs → ∀ (ls : Array Slot), lv_has ls 4 [(3, .int (iI g)), (0, .ref M0), (1, .int (iI b)), (2, .int (iI up))] → W p l e (rK 23 0 0) s mI args below meth c_0 H locs 0 0 Q (F0 mI 10 ls []) := by
    intro N
    induction N with
    | zero =>
      intro g tn2 op2 hg ht2 ho2 hN
      exact absurd hN (by omega)
    | succ N ih =>
      intro g tn2 op2 hg ht2 ho2 hN H locs hP hD hS ls hl
      refine lv_iload_n hx hb dX6_takeOne_10 rfl (lv_at hl 0 rfl) ?_
      refine lv_aload_n hx hb dX6_takeOne_11 rfl (lv_at hl 1 rfl) ?_
      refine li_get (ci := 6) (v := .int (iI n)) (C := RX6) (T := TX6) (N := 11) (q0 := 0) (k := 0) hx hb hts hin_X6 hown hK hP rfl rfl (by decide) hf_26 rfl rfl dX6_takeOne_12 ?_
      refine li_icmp_gt (tgt := 44) hx hb dX6_takeOne_15 (by decide) (ib_i (by omega) (by omega)) (ib_i (by omega) (by omega)) (fun c_15 => ?_) (fun c_15 => ?_)
      · have loop_44 : ∀ (N : Nat) (r : Int) (pl2 : Int → Int) (w2 : Wt), (0 ≤ r ∧ r ≤ 7) → (plI n pl2) → (WI n L a w2) → (dsA n up (pl2 b) ≤ 7 - r) → (brM n L a cnt ln dr b up (7 - r).toNat pl2 w2 = brM n L a cnt ln dr b up 7 pl w) → dsA n up (pl2 b) < (N : Int) → ∀ (H : Heap) (locs : List Loc), va_P D vwCl (cMd cI n L a rn sp cnt th (rowF w2 op2 tn2 pl2 0 kd nb) as ln dr M0 M1 M2 M3 M4) H → va_D A (cMd cI n L a rn sp cnt th (rowF w2 op2 tn2 pl2 0 kd nb) as ln dr M0 M1 M2 M3 M4) → va_S A s.heap H locs → ∀ (ls : Array Slot), lv_has ls 4 [(0, .ref M0), (1, .int (iI b)), (2, .int (iI up))] → W p l e (rK 23 0 0) s mI args below meth c_0 H locs 0 0 Q (F0 mI 44 ls []) := by
          intro N
          induction N with
          | zero =>
            intro r pl2 w2 hrr hpl2 hw2 hds hq hN
            exact absurd hN (by have q9 := hpl2 b; unfold dsA at hN; split at hN <;> omega)
          | succ N ih =>
            intro r pl2 w2 hrr hpl2 hw2 hds hq hN H locs hP hD hS ls hl
            have hpb := hpl2 b
            have he1 : (up = 0 ∧ endA n up = 0) ∨ (up = 1 ∧ endA n up = n + 1) := by unfold endA; split <;> omega
            have hpn : (up = 0 ∧ plN pl2 b up = pl2 b - 1) ∨ (up = 1 ∧ plN pl2 b up = pl2 b + 1) := by unfold plN; split <;> omega
            have hgt : gtA (pl2 b) (plN pl2 b up) ≤ pl2 b ∧ gtA (pl2 b) (plN pl2 b up) ≤ plN pl2 b up ∧ (gtA (pl2 b) (plN pl2 b up) = pl2 b ∨ gtA (pl2 b) (plN pl2 b up) = plN pl2 b up) := by unfold gtA; split <;> omega
            have hds9 : (up = 0 ∧ dsA n up (pl2 b) = pl2 b) ∨ (up = 1 ∧ dsA n up (pl2 b) = n + 1 - pl2 b) := by unfold dsA; split <;> omega
            refine lv_aload_n hx hb dX6_takeOne_44 rfl (lv_at hl 0 rfl) ?_
            refine lv_aload_n hx hb dX6_takeOne_45 rfl (lv_at hl 0 rfl) ?_
            refine lv_iload_n hx hb dX6_takeOne_46 rfl (lv_at hl 1 rfl) ?_
            refine lv_iload_n hx hb dX6_takeOne_47 rfl (lv_at hl 2 rfl) ?_
            refine cl_i0 (isC := [0, 1, 2, 3, 4]) (isR := []) (isN := [0, 1, 2, 3, 4]) (wr := []) (wn := cMd cI n L a rn sp cnt th (rowF w2 op2 tn2 pl2 0 kd nb) as ln dr M0 M1 M2 M3 M4) (As := [.int (iI b), .int (iI up)]) (rest := [.ref M0]) (r := plN pl2 b up) (ci := 6) (q0 := 0) ⟨hx, hb, hml, hown, hts⟩ (c_X6_target n L a rn sp cnt th w2 op2 tn2 pl2 0 kd nb as ln dr M0 M1 M2 M3 M4 b up (by first | assumption | omega) (by first | assumption | omega) (by first | assumption | omega)) (cwV 2 hts gX6_takeOne_X6_target rfl rfl rfl (by decide +kernel) ⟨Nat.le_of_ble_eq_true rfl, Nat.le_of_ble_eq_true rfl⟩) hK hNW hP hD hS hA rfl rfl rfl rfl (by decide) rfl rfl rfl rfl rfl rfl hl.1 rfl (Nat.le_of_ble_eq_true rfl) dX6_takeOne_48 ⟨Nat.zero_le _, Nat.zero_le _⟩ (fun H locs hP hD hS => ?_)
            refine cl_i0 (isC := [0, 1, 2, 3, 4]) (isR := []) (isN := [0, 1, 2, 3, 4]) (wr := []) (wn := cMd cI n L a rn sp cnt th (rowF w2 op2 tn2 pl2 0 kd nb) as ln dr M0 M1 M2 M3 M4) (As := [.int (iI (plN pl2 b up))]) (rest := []) (r := bz (0 ≤ (plN pl2 b up) ∧ (plN pl2 b up) ≤ n + 1)) (ci := 6) (q0 := 0) ⟨hx, hb, hml, hown, hts⟩ (c_X6_isPlace n L a rn sp cnt th w2 op2 tn2 pl2 0 kd nb as ln dr M0 M1 M2 M3 M4 (plN pl2 b up) (by first | assumption | omega) (by first | assumption | omega) (by first | assumption | omega) (by first | assumption | omega)) (cwV 1 hts gX6_takeOne_X6_isPlace rfl rfl rfl (by decide +kernel) ⟨Nat.le_of_ble_eq_true rfl, Nat.le_of_ble_eq_true rfl⟩) hK hNW hP hD hS hA rfl rfl rfl rfl (by decide) rfl rfl rfl rfl rfl rfl hl.1 rfl (Nat.le_of_ble_eq_true rfl) dX6_takeOne_51 ⟨Nat.zero_le _, Nat.zero_le _⟩ (fun H locs hP hD hS => ?_)
            refine li_ifb_eq (tgt := 68) hx hb dX6_takeOne_54 (by decide) (fun c_54 => ?_) (fun c_54 => ?_)
            · refine li_const hx hb dX6_takeOne_68 ?_
              exact li_zret () hx hb hr hlocks hK hP hD hS (by decide) dX6_takeOne_69 hQ (by rw [← hq, brM_e _ (by omega), ho2, ht2, show g = n + 1 by omega]; try rfl) (congrArg iI (by rw [← hq, brM_e _ (by omega)]; rfl))
            · refine lv_aload_n hx hb dX6_takeOne_57 rfl (lv_at hl 0 rfl) ?_
              refine lv_iload_n hx hb dX6_takeOne_58 rfl (lv_at hl 1 rfl) ?_
              refine lv_iload_n hx hb dX6_takeOne_59 rfl (lv_at hl 2 rfl) ?_
              refine cl_i0 (isC := [0, 1, 2, 3, 4]) (isR := []) (isN := [0, 1, 2, 3, 4]) (wr := []) (wn := cMd cI n L a rn sp cnt th (rowF ((lvX n L a (gtA (pl2 b) (plN pl2 b up)) w2).2) op2 tn2 (if (lvX n L a (gtA (pl2 b) (plN pl2 b up)) w2).1 = true ∧ obI n a (lvX n L a (gtA (pl2 b) (plN pl2 b up)) w2).2 cnt ln dr pl2 (plN pl2 b up) b = 0 then upZ pl2 b (plN pl2 b up) else pl2) (if (lvX n L a (gtA (pl2 b) (plN pl2 b up)) w2).1 = true ∧ obI n a (lvX n L a (gtA (pl2 b) (plN pl2 b up)) w2).2 cnt ln dr pl2 (plN pl2 b up) b = 0 then 0 else cef (lvX n L a (gtA (pl2 b) (plN pl2 b up)) w2).1 n (gtA (pl2 b) (plN pl2 b up)) 0) (if (lvX n L a (gtA (pl2 b) (plN pl2 b up)) w2).1 = true ∧ obI n a (lvX n L a (gtA (pl2 b) (plN pl2 b up)) w2).2 cnt ln dr pl2 (plN pl2 b up) b = 0 then kd else ckf (lvX n L a (gtA (pl2 b) (plN pl2 b up)) w2).1 (obI n a (lvX n L a (gtA (pl2 b) (plN pl2 b up)) w2).2 cnt ln dr pl2 (plN pl2 b up) b) n (gtA (pl2 b) (plN pl2 b up)) 0 kd) (if (lvX n L a (gtA (pl2 b) (plN pl2 b up)) w2).1 = true ∧ obI n a (lvX n L a (gtA (pl2 b) (plN pl2 b up)) w2).2 cnt ln dr pl2 (plN pl2 b up) b = 0 then nb else cnf (lvX n L a (gtA (pl2 b) (plN pl2 b up)) w2).1 n (gtA (pl2 b) (plN pl2 b up)) 0 nb)) as ln dr M0 M1 M2 M3 M4) (As := [.int (iI b), .int (iI up)]) (rest := []) (r := bz ((lvX n L a (gtA (pl2 b) (plN pl2 b up)) w2).1 = true ∧ obI n a (lvX n L a (gtA (pl2 b) (plN pl2 b up)) w2).2 cnt ln dr pl2 (plN pl2 b up) b = 0)) (ci := 6) (q0 := 0) ⟨hx, hb, hml, hown, hts⟩ (c_X6_climb n L a rn sp cnt th w2 op2 tn2 pl2 0 kd nb as ln dr M0 M1 M2 M3 M4 b up (by first | assumption | omega) (by first | assumption | omega) (by first | assumption | omega) (by exact hw2) (by first | assumption | omega) (by first | assumption | omega) (by first | assumption | omega) (by first | assumption | omega) (by exact hpl2) (by first | assumption | omega) (by first | assumption | omega) (by first | assumption | omega)) (cwV 2 hts gX6_takeOne_X6_climb rfl rfl rfl (by decide +kernel) ⟨Nat.le_of_ble_eq_true rfl, Nat.le_of_ble_eq_true rfl⟩) hK hNW hP hD hS hA rfl rfl rfl rfl (by decide) rfl rfl rfl rfl rfl rfl hl.1 rfl (Nat.le_of_ble_eq_true rfl) dX6_takeOne_60 ⟨Nat.zero_le _, Nat.zero_le _⟩ (fun H locs hP hD hS => ?_)
              refine li_ifb_ne (tgt := 44) hx hb dX6_takeOne_63 (by decide) (fun c_63 => ?_) (fun c_63 => ?_)
              · simp only [if_pos c_63] at hP hD
                have he9 : (7 - r).toNat = (7 - (r + 1)).toNat + 1 := by omega
                have hds8 : (up = 0 ∧ dsA n up (upZ pl2 b (plN pl2 b up) b) = plN pl2 b up) ∨ (up = 1 ∧ dsA n up (upZ pl2 b (plN pl2 b up) b) = n + 1 - plN pl2 b up) := by rw [upZ_s]; unfold dsA; split <;> omega
                exact ih (r + 1) (upZ pl2 b (plN pl2 b up)) ((lvX n L a (gtA (pl2 b) (plN pl2 b up)) w2).2) (by omega) (by exact plI_up hpl2 (by omega)) (by exact lvX_WI hn hL ha (by omega) hw2) (by omega) (by rw [he9, brM_s _ (by omega) rfl c_63.1 c_63.2] at hq; exact hq) (by omega) _ _ hP hD hS _ (lv_sub hl [0, 1, 2] rfl)
              · simp only [if_neg c_63] at hP hD
                refine li_const hx hb dX6_takeOne_66 ?_
                exact li_zret () hx hb hr hlocks hK hP hD hS (by decide) dX6_takeOne_67 hQ (by have t9 := tk_fail (7 - (r + 1)).toNat (by omega) c_63 kd; have t8 := tk_fail (7 - (r + 1)).toNat (by omega) c_63 nb; rw [← hq, show (7 - r).toNat = (7 - (r + 1)).toNat + 1 by omega, t9.1, t9.2.1, t9.2.2.1, t8.2.2.2.1, t9.2.2.2.2.1, ho2, ht2, show g = n + 1 by omega]) (congrArg iI (by rw [← hq, show (7 - r).toNat = (7 - (r + 1)).toNat + 1 by omega]; exact (bz_f (tk_fail _ (by omega) c_63 kd).2.2.2.2.2).symm))
        exact loop_44 (((dsA n up (pl b)) : Int) + 1).toNat 0 pl w (by omega) (by exact hpi) (by exact hw) (by have q9 := hpi b; unfold dsA; split <;> omega) (by rfl) (by have q9 := hpi b; unfold dsA; split <;> omega) _ _ hP hD hS _ (lv_sub hl [1, 2, 3] rfl)
      · refine lv_aload_n hx hb dX6_takeOne_18 rfl (lv_at hl 1 rfl) ?_
        refine li_get (ci := 6) (v := .ref M1) (C := RX6) (T := TX6) (N := 11) (q0 := 0) (k := 5) hx hb hts hin_X6 hown hK hP rfl rfl (by decide) hf_9 rfl rfl dX6_takeOne_19 ?_
        refine li_bipush hx hb dX6_takeOne_22 (by decide) ?_
        refine lv_iload_n hx hb dX6_takeOne_24 rfl (lv_at hl 0 rfl) ?_
        refine li_add hx hb dX6_takeOne_25 ?_
        refine li_const hx hb dX6_takeOne_26 ?_
        refine li_iast (q0 := 1) (t0 := 0) (g := (rowF w op2 tn2 pl 0 kd nb)) (w2 := cMd cI n L a rn sp cnt th (rowF w op2 (upZ tn2 g 0) pl 0 kd nb) as ln dr M0 M1 M2 M3 M4) hx hb hK hP hD hS rfl rfl (by omega) (by omega) (ib_i (by omega) (by omega)) dX6_takeOne_27 (by rw [wr_t (c := g) (by omega) (by omega) (by omega)] <;> rfl) (fun H locs hP hD hS => ?_)
        refine lv_aload_n hx hb dX6_takeOne_28 rfl (lv_at hl 1 rfl) ?_
        refine li_get (ci := 6) (v := .ref M1) (C := RX6) (T := TX6) (N := 11) (q0 := 0) (k := 5) hx hb hts hin_X6 hown hK hP rfl rfl (by decide) hf_9 rfl rfl dX6_takeOne_29 ?_
        refine li_bipush hx hb dX6_takeOne_32 (by decide) ?_
        refine lv_iload_n hx hb dX6_takeOne_34 rfl (lv_at hl 0 rfl) ?_
        refine li_add hx hb dX6_takeOne_35 ?_
        refine li_const hx hb dX6_takeOne_36 ?_
        refine li_iast (q0 := 1) (t0 := 0) (g := (rowF w op2 (upZ tn2 g 0) pl 0 kd nb)) (w2 := cMd cI n L a rn sp cnt th (rowF w (upZ op2 g 0) (upZ tn2 g 0) pl 0 kd nb) as ln dr M0 M1 M2 M3 M4) hx hb hK hP hD hS rfl rfl (by omega) (by omega) (ib_i (by omega) (by omega)) dX6_takeOne_37 (by rw [wr_o (c := g) (by omega) (by omega) (by omega)] <;> rfl) (fun H locs hP hD hS => ?_)
        refine li_inc (j := 0) (lv' := [(3, .int (iI (g + 1))), (0, .ref M0), (1, .int (iI b)), (2, .int (iI up))]) hx hb dX6_takeOne_38 hl rfl (by decide) rfl (fun ls hl => ?_)
        refine lv_goto (tgt := 10) hx hb dX6_takeOne_41 (by decide) ?_
        exact ih (g + 1) (upZ tn2 g 0) (upZ op2 g 0) (by omega) (by rw [ht2]; exact zrZ_s _ hg.1) (by rw [ho2]; exact zrZ_s _ hg.1) (by omega) _ _ hP hD hS _ (lv_sub hl [0, 1, 2, 3] rfl)
  exact loop_10 (((n + 1 - 0) : Int) + 1).toNat 0 tn op (by omega) (by exact (zrZ_0 tn).symm) (by exact (zrZ_0 op).symm) (by omega) _ _ hP hD hS _ (lv_sub hl [0, 1, 2, 3] rfl)

set_option maxRecDepth 100000 in
set_option maxHeartbeats 4000000 in
theorem c_X6_putAside {l : Launch} {D : va_G} {cI cZ cJ : ClassId} (n : Int) (L : Int) (a : Int) (rn : Int) (sp : Int) (cnt : Int) (th : Int) (row : Int → Int) (as : Int → Int) (ln : Int → Int) (dr : Int → Int) (M0 M1 M2 M3 M4 : Nat)  : Dv l yX6_putAside wsX6_putAside 1 [.ref M0] D (ty3 cI cZ cJ) (cMd cI n L a rn sp cnt th row as ln dr M0 M1 M2 M3 M4) (cMd cI n L a rn sp cnt th row (cpK row as 50) ln dr M0 M1 M2 M3 M4) := by
  refine ct_v (plainFor_of_name (by decide)) rfl (Nat.le_of_ble_eq_true rfl) ?_
  intro p e s mI args below meth c_0 ls A hx hb hr hml hts hown hlocks hin hA hP hK hD hNW hS hl Q hQ
  have hown : s.vm.findClass RX6 = some mI.cls := hown
  have hl : lv_has ls 2 [(0, .ref M0)] := hl
  have hin_X6 : ∀ w ∈ wsX60, w ∈ wsX6_putAside := by decide +kernel
  have hf_13 := hts (.fieldLink RX6 13 "LockStaircaseModel" "aside" "[I") (by decide +kernel)
  have hf_9 := hts (.fieldLink RX6 9 "LockStaircaseModel" "row" "[I") (by decide +kernel)
  refine li_const hx hb dX6_putAside_0 ?_
  refine lv_istore_n (lv' := [(1, .int (iI 0)), (0, .ref M0)]) hx hb dX6_putAside_1 rfl hl (by decide) rfl (fun ls hl => ?_)
  have loop_2 : ∀ (N : Nat) (j : Int) (as2 : Int → Int), (0 ≤ j ∧ j ≤ 50) → (as2 = cpK row as j) → 50 - j < (N : Int) → ∀ (H : Heap) (locs : List Loc), va_P D vwCl (cMd cI n L a rn sp cnt th row as2 ln dr M0 M1 M2 M3 M4) H → va_D A (cMd cI n L a rn sp cnt th row as2 ln dr M0 M1 M2 M3 M4) → va_S A s.heap H locs → ∀ (ls : Array Slot), lv_has ls 2 [(1, .int (iI j)), (0, .ref M0)] → W p l e (rK 1 0 0) s mI args below meth c_0 H locs 0 0 Q (F0 mI 2 ls []) := by
    intro N
    induction N with
    | zero =>
      intro j as2 hj hh hN
      exact absurd hN (by omega)
    | succ N ih =>
      intro j as2 hj hh hN H locs hP hD hS ls hl
      refine lv_iload_n hx hb dX6_putAside_2 rfl (lv_at hl 0 rfl) ?_
      refine li_bipush hx hb dX6_putAside_3 (by decide) ?_
      refine li_icmp_ge (tgt := 26) hx hb dX6_putAside_5 (by decide) (ib_i (by omega) (by omega)) (by decide) (fun c_5 => ?_) (fun c_5 => ?_)
      · exact li_vret () hx hb hr hlocks hK hP hD hS dX6_putAside_26 hQ (by rw [hh, show j = 50 by omega]) trivial
      · refine lv_aload_n hx hb dX6_putAside_8 rfl (lv_at hl 1 rfl) ?_
        refine li_get (ci := 6) (v := .ref M2) (C := RX6) (T := TX6) (N := 11) (q0 := 0) (k := 6) hx hb hts hin_X6 hown hK hP rfl rfl (by decide) hf_13 rfl rfl dX6_putAside_9 ?_
        refine lv_iload_n hx hb dX6_putAside_12 rfl (lv_at hl 0 rfl) ?_
        refine lv_aload_n hx hb dX6_putAside_13 rfl (lv_at hl 1 rfl) ?_
        refine li_get (ci := 6) (v := .ref M1) (C := RX6) (T := TX6) (N := 11) (q0 := 0) (k := 5) hx hb hts hin_X6 hown hK hP rfl rfl (by decide) hf_9 rfl rfl dX6_putAside_14 ?_
        refine lv_iload_n hx hb dX6_putAside_17 rfl (lv_at hl 0 rfl) ?_
        refine li_iald (q0 := 1) (t0 := 0) (g := row) hx hb hK hP rfl rfl (by omega) (by omega) (ib_i (by omega) (by omega)) dX6_putAside_18 ?_
        refine li_iast (q0 := 2) (t0 := 0) (g := as2) (w2 := cMd cI n L a rn sp cnt th row (upZ as2 j (row j)) ln dr M0 M1 M2 M3 M4) hx hb hK hP hD hS rfl rfl (by omega) (by omega) (ib_i (by omega) (by omega)) dX6_putAside_19 rfl (fun H locs hP hD hS => ?_)
        refine li_inc (j := 0) (lv' := [(1, .int (iI (j + 1))), (0, .ref M0)]) hx hb dX6_putAside_20 hl rfl (by decide) rfl (fun ls hl => ?_)
        refine lv_goto (tgt := 2) hx hb dX6_putAside_23 (by decide) ?_
        exact ih (j + 1) (upZ as2 j (row j)) (by omega) (by rw [hh]; exact cpK_s _ _ hj.1) (by omega) _ _ hP hD hS _ (lv_sub hl [0, 1] rfl)
  exact loop_2 (((50 - 0) : Int) + 1).toNat 0 as (by omega) (by exact (cpK_0 row as).symm) (by omega) _ _ hP hD hS _ (lv_sub hl [0, 1] rfl)

set_option maxRecDepth 100000 in
set_option maxHeartbeats 4000000 in
theorem c_X6_takeBack {l : Launch} {D : va_G} {cI cZ cJ : ClassId} (n : Int) (L : Int) (a : Int) (rn : Int) (sp : Int) (cnt : Int) (th : Int) (row : Int → Int) (as : Int → Int) (ln : Int → Int) (dr : Int → Int) (M0 M1 M2 M3 M4 : Nat)  : Dv l yX6_takeBack wsX6_takeBack 1 [.ref M0] D (ty3 cI cZ cJ) (cMd cI n L a rn sp cnt th row as ln dr M0 M1 M2 M3 M4) (cMd cI n L a rn sp cnt th (cpK as row 50) as ln dr M0 M1 M2 M3 M4) := by
  refine ct_v (plainFor_of_name (by decide)) rfl (Nat.le_of_ble_eq_true rfl) ?_
  intro p e s mI args below meth c_0 ls A hx hb hr hml hts hown hlocks hin hA hP hK hD hNW hS hl Q hQ
  have hown : s.vm.findClass RX6 = some mI.cls := hown
  have hl : lv_has ls 2 [(0, .ref M0)] := hl
  have hin_X6 : ∀ w ∈ wsX60, w ∈ wsX6_takeBack := by decide +kernel
  have hf_13 := hts (.fieldLink RX6 13 "LockStaircaseModel" "aside" "[I") (by decide +kernel)
  have hf_9 := hts (.fieldLink RX6 9 "LockStaircaseModel" "row" "[I") (by decide +kernel)
  refine li_const hx hb dX6_takeBack_0 ?_
  refine lv_istore_n (lv' := [(1, .int (iI 0)), (0, .ref M0)]) hx hb dX6_takeBack_1 rfl hl (by decide) rfl (fun ls hl => ?_)
  have loop_2 : ∀ (N : Nat) (j : Int) (rw2 : Int → Int), (0 ≤ j ∧ j ≤ 50) → (rw2 = cpK as row j) → 50 - j < (N : Int) → ∀ (H : Heap) (locs : List Loc), va_P D vwCl (cMd cI n L a rn sp cnt th rw2 as ln dr M0 M1 M2 M3 M4) H → va_D A (cMd cI n L a rn sp cnt th rw2 as ln dr M0 M1 M2 M3 M4) → va_S A s.heap H locs → ∀ (ls : Array Slot), lv_has ls 2 [(1, .int (iI j)), (0, .ref M0)] → W p l e (rK 1 0 0) s mI args below meth c_0 H locs 0 0 Q (F0 mI 2 ls []) := by
    intro N
    induction N with
    | zero =>
      intro j rw2 hj hh hN
      exact absurd hN (by omega)
    | succ N ih =>
      intro j rw2 hj hh hN H locs hP hD hS ls hl
      refine lv_iload_n hx hb dX6_takeBack_2 rfl (lv_at hl 0 rfl) ?_
      refine li_bipush hx hb dX6_takeBack_3 (by decide) ?_
      refine li_icmp_ge (tgt := 26) hx hb dX6_takeBack_5 (by decide) (ib_i (by omega) (by omega)) (by decide) (fun c_5 => ?_) (fun c_5 => ?_)
      · exact li_vret () hx hb hr hlocks hK hP hD hS dX6_takeBack_26 hQ (by rw [hh, show j = 50 by omega]) trivial
      · refine lv_aload_n hx hb dX6_takeBack_8 rfl (lv_at hl 1 rfl) ?_
        refine li_get (ci := 6) (v := .ref M1) (C := RX6) (T := TX6) (N := 11) (q0 := 0) (k := 5) hx hb hts hin_X6 hown hK hP rfl rfl (by decide) hf_9 rfl rfl dX6_takeBack_9 ?_
        refine lv_iload_n hx hb dX6_takeBack_12 rfl (lv_at hl 0 rfl) ?_
        refine lv_aload_n hx hb dX6_takeBack_13 rfl (lv_at hl 1 rfl) ?_
        refine li_get (ci := 6) (v := .ref M2) (C := RX6) (T := TX6) (N := 11) (q0 := 0) (k := 6) hx hb hts hin_X6 hown hK hP rfl rfl (by decide) hf_13 rfl rfl dX6_takeBack_14 ?_
        refine lv_iload_n hx hb dX6_takeBack_17 rfl (lv_at hl 0 rfl) ?_
        refine li_iald (q0 := 2) (t0 := 0) (g := as) hx hb hK hP rfl rfl (by omega) (by omega) (ib_i (by omega) (by omega)) dX6_takeBack_18 ?_
        refine li_iast (q0 := 1) (t0 := 0) (g := rw2) (w2 := cMd cI n L a rn sp cnt th (upZ rw2 j (as j)) as ln dr M0 M1 M2 M3 M4) hx hb hK hP hD hS rfl rfl (by omega) (by omega) (ib_i (by omega) (by omega)) dX6_takeBack_19 rfl (fun H locs hP hD hS => ?_)
        refine li_inc (j := 0) (lv' := [(1, .int (iI (j + 1))), (0, .ref M0)]) hx hb dX6_takeBack_20 hl rfl (by decide) rfl (fun ls hl => ?_)
        refine lv_goto (tgt := 2) hx hb dX6_takeBack_23 (by decide) ?_
        exact ih (j + 1) (upZ rw2 j (as j)) (by omega) (by rw [hh]; exact cpK_s _ _ hj.1) (by omega) _ _ hP hD hS _ (lv_sub hl [0, 1] rfl)
  exact loop_2 (((50 - 0) : Int) + 1).toNat 0 row (by omega) (by exact (cpK_0 as row).symm) (by omega) _ _ hP hD hS _ (lv_sub hl [0, 1] rfl)
