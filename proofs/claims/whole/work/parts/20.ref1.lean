set_option maxRecDepth 100000 in
set_option maxHeartbeats 4000000 in
theorem c_X6_within {l : Launch} {D : va_G} {cI cZ cJ : ClassId} (x : Int) (lo : Int) (hi : Int) (i_x : -2147483648 ≤ x ∧ x < 2147483648) (i_lo : -2147483648 ≤ lo ∧ lo < 2147483648) (i_hi : -2147483648 ≤ hi ∧ hi < 2147483648) : Di l yX6_within wsX6_within 1 [.int (iI x), .int (iI lo), .int (iI hi)] D (ty3 cI cZ cJ) ([]) (wiA x lo hi) ([]) := by
  refine ct_i (plainFor_of_name (by decide)) rfl (Nat.le_of_ble_eq_true rfl) ?_
  intro p e s mI args below meth c_0 ls A hx hb hr hml hts hown hlocks hin hA hP hK hD hNW hS hl Q hQ
  have hown : s.vm.findClass RX6 = some mI.cls := hown
  have hl : lv_has ls 3 [(0, .int (iI x)), (1, .int (iI lo)), (2, .int (iI hi))] := hl
  have hk_max := hts (.code Lib.Math.max.name Lib.Math.max.code 2 (some .int)) (by decide +kernel)
  have hk_min := hts (.code Lib.Math.min.name Lib.Math.min.code 2 (some .int)) (by decide +kernel)
  have hi_Math := hts (.initialized "java/lang/Math") (by decide +kernel)
  have hm_43 := hts (.methodLink RX6 43 Lib.Math.min.name) (by decide +kernel)
  have hm_49 := hts (.methodLink RX6 49 Lib.Math.max.name) (by decide +kernel)
  have hs_max := hts (.static Lib.Math.max.name) (by decide +kernel)
  have hs_min := hts (.static Lib.Math.min.name) (by decide +kernel)
  have hx2 : -2147483648 ≤ (if x < hi then x else hi) ∧ (if x < hi then x else hi) < 2147483648 := by split <;> omega
  refine lv_iload_n hx hb dX6_within_0 rfl (lv_at hl 1 rfl) ?_
  refine lv_iload_n hx hb dX6_within_1 rfl (lv_at hl 2 rfl) ?_
  refine lv_iload_n hx hb dX6_within_2 rfl (lv_at hl 0 rfl) ?_
  refine li_min hx hb (hml.trans hl.1.symm) hown hm_43 hs_min hi_Math hk_min (Nat.le_of_ble_eq_true rfl) (Nat.le_of_ble_eq_true rfl) (Nat.zero_le _) (Nat.zero_le _) (ib_i (by omega) (by omega)) (ib_i (by omega) (by omega)) dX6_within_3 ?_
  refine li_max hx hb (hml.trans hl.1.symm) hown hm_49 hs_max hi_Math hk_max (Nat.le_of_ble_eq_true rfl) (Nat.le_of_ble_eq_true rfl) (Nat.zero_le _) (Nat.zero_le _) (ib_i (by omega) (by omega)) (ib_i (by omega) (by omega)) dX6_within_6 ?_
  exact li_iret () hx hb hr hlocks hK hP hD hS dX6_within_9 hQ rfl (congrArg iI (rfl))

set_option maxRecDepth 100000 in
set_option maxHeartbeats 4000000 in
theorem c_X6_isWithin {l : Launch} {D : va_G} {cI cZ cJ : ClassId} (x : Int) (lo : Int) (hi : Int) (i_x : -2147483648 ≤ x ∧ x < 2147483648) (i_lo : -2147483648 ≤ lo ∧ lo < 2147483648) (i_hi : -2147483648 ≤ hi ∧ hi < 2147483648) : Di l yX6_isWithin wsX6_isWithin 1 [.int (iI x), .int (iI lo), .int (iI hi)] D (ty3 cI cZ cJ) ([]) (bz (lo ≤ x ∧ x ≤ hi)) ([]) := by
  refine ct_i (plainFor_of_name (by decide)) rfl (Nat.le_of_ble_eq_true rfl) ?_
  intro p e s mI args below meth c_0 ls A hx hb hr hml hts hown hlocks hin hA hP hK hD hNW hS hl Q hQ
  have hown : s.vm.findClass RX6 = some mI.cls := hown
  have hl : lv_has ls 3 [(0, .int (iI x)), (1, .int (iI lo)), (2, .int (iI hi))] := hl
  refine lv_iload_n hx hb dX6_isWithin_0 rfl (lv_at hl 0 rfl) ?_
  refine lv_iload_n hx hb dX6_isWithin_1 rfl (lv_at hl 1 rfl) ?_
  refine li_icmp_lt (tgt := 14) hx hb dX6_isWithin_2 (by decide) (ib_i (by omega) (by omega)) (ib_i (by omega) (by omega)) (fun c_2 => ?_) (fun c_2 => ?_)
  · refine li_const hx hb dX6_isWithin_14 ?_
    exact li_zret () hx hb hr hlocks hK hP hD hS (by decide) dX6_isWithin_15 hQ rfl (congrArg iI (by first | exact (bz_t (by omega)).symm | exact (bz_f (by omega)).symm))
  · refine lv_iload_n hx hb dX6_isWithin_5 rfl (lv_at hl 0 rfl) ?_
    refine lv_iload_n hx hb dX6_isWithin_6 rfl (lv_at hl 2 rfl) ?_
    refine li_icmp_gt (tgt := 14) hx hb dX6_isWithin_7 (by decide) (ib_i (by omega) (by omega)) (ib_i (by omega) (by omega)) (fun c_7 => ?_) (fun c_7 => ?_)
    · refine li_const hx hb dX6_isWithin_14 ?_
      exact li_zret () hx hb hr hlocks hK hP hD hS (by decide) dX6_isWithin_15 hQ rfl (congrArg iI (by first | exact (bz_t (by omega)).symm | exact (bz_f (by omega)).symm))
    · refine li_const hx hb dX6_isWithin_10 ?_
      refine lv_goto (tgt := 15) hx hb dX6_isWithin_11 (by decide) ?_
      exact li_zret () hx hb hr hlocks hK hP hD hS (by decide) dX6_isWithin_15 hQ rfl (congrArg iI (by first | exact (bz_t (by omega)).symm | exact (bz_f (by omega)).symm))

set_option maxRecDepth 100000 in
set_option maxHeartbeats 4000000 in
theorem c_X6_check {l : Launch} {D : va_G} {cI cZ cJ : ClassId} (n : Int) (L : Int) (a : Int) (rn : Int) (sp : Int) (cnt : Int) (th : Int) (w : Wt) (op : Int → Int) (tn : Int → Int) (pl : Int → Int) (en : Int) (kd : Int → Int) (nb : Int → Int) (as : Int → Int) (ln : Int → Int) (dr : Int → Int) (M0 M1 M2 M3 M4 : Nat) (x : Int) (y : Int) (z : Int) (hx1 : x = 0 ∨ x = 1) (hy1 : y = 0 ∨ y = 1) (hz1 : z = 0 ∨ z = 1) : Di l yX6_check wsX6_check 1 [.ref M0, .int (iI x), .int (iI y), .int (iI z)] D (ty3 cI cZ cJ) (cMd cI n L a rn sp cnt th (rowF w op tn pl en kd nb) as ln dr M0 M1 M2 M3 M4) (bz (chA x y z = 0)) (cMd cI n L a rn sp cnt (chA x y z) (rowF w op tn pl en kd nb) as ln dr M0 M1 M2 M3 M4) := by
  refine ct_i (plainFor_of_name (by decide)) rfl (Nat.le_of_ble_eq_true rfl) ?_
  intro p e s mI args below meth c_0 ls A hx hb hr hml hts hown hlocks hin hA hP hK hD hNW hS hl Q hQ
  have hown : s.vm.findClass RX6 = some mI.cls := hown
  have hl : lv_has ls 4 [(0, .ref M0), (1, .int (iI x)), (2, .int (iI y)), (3, .int (iI z))] := hl
  have hin_X6 : ∀ w ∈ wsX60, w ∈ wsX6_check := by decide +kernel
  have hf_40 := hts (.fieldLink RX6 40 "LockStaircaseModel" "thrown" "I") (by decide +kernel)
  refine lv_aload_n hx hb dX6_check_0 rfl (lv_at hl 0 rfl) ?_
  refine lv_iload_n hx hb dX6_check_1 rfl (lv_at hl 1 rfl) ?_
  refine li_if_ne (tgt := 9) hx hb dX6_check_2 (by decide) (ib_i (by omega) (by omega)) (fun c_2 => ?_) (fun c_2 => ?_)
  · refine lv_iload_n hx hb dX6_check_9 rfl (lv_at hl 2 rfl) ?_
    refine li_if_ne (tgt := 17) hx hb dX6_check_10 (by decide) (ib_i (by omega) (by omega)) (fun c_10 => ?_) (fun c_10 => ?_)
    · refine lv_iload_n hx hb dX6_check_17 rfl (lv_at hl 3 rfl) ?_
      refine li_if_ne (tgt := 25) hx hb dX6_check_18 (by decide) (ib_i (by omega) (by omega)) (fun c_18 => ?_) (fun c_18 => ?_)
      · refine li_const hx hb dX6_check_25 ?_
        refine li_put (ci := 6) (v := .int (iI 0)) (ty := .int) (C := RX6) (T := TX6) (N := 11) (q0 := 0) (k := 10) (w2 := cMd cI n L a rn sp cnt 0 (rowF w op tn pl en kd nb) as ln dr M0 M1 M2 M3 M4) hx hb hts hin_X6 tyX6_ok nmX6 hown hK hP hD hS rfl rfl (by decide) hf_40 rfl rfl (by decide +kernel) rfl rfl (Nat.le_of_ble_eq_true rfl) dX6_check_26 rfl (fun H locs hP hD hS => ?_)
        refine lv_aload_n hx hb dX6_check_29 rfl (lv_at hl 0 rfl) ?_
        refine li_get (ci := 6) (v := .int (iI 0)) (C := RX6) (T := TX6) (N := 11) (q0 := 0) (k := 10) hx hb hts hin_X6 hown hK hP rfl rfl (by decide) hf_40 rfl rfl dX6_check_30 ?_
        refine li_if_ne_f (tgt := 40) hx hb dX6_check_33 (by decide) (by decide) (by decide) ?_
        refine li_const hx hb dX6_check_36 ?_
        refine lv_goto (tgt := 41) hx hb dX6_check_37 (by decide) ?_
        exact li_zret () hx hb hr hlocks hK hP hD hS (by decide) dX6_check_41 hQ (by unfold chA; repeat (first | rw [if_pos (by omega)] | rw [if_neg (by omega)])) (congrArg iI (by unfold chA; (repeat' split) <;> first | rfl | (exfalso; omega)))
      · refine li_const hx hb dX6_check_21 ?_
        refine lv_goto (tgt := 26) hx hb dX6_check_22 (by decide) ?_
        refine li_put (ci := 6) (v := .int (iI 3)) (ty := .int) (C := RX6) (T := TX6) (N := 11) (q0 := 0) (k := 10) (w2 := cMd cI n L a rn sp cnt 3 (rowF w op tn pl en kd nb) as ln dr M0 M1 M2 M3 M4) hx hb hts hin_X6 tyX6_ok nmX6 hown hK hP hD hS rfl rfl (by decide) hf_40 rfl rfl (by decide +kernel) rfl rfl (Nat.le_of_ble_eq_true rfl) dX6_check_26 rfl (fun H locs hP hD hS => ?_)
        refine lv_aload_n hx hb dX6_check_29 rfl (lv_at hl 0 rfl) ?_
        refine li_get (ci := 6) (v := .int (iI 3)) (C := RX6) (T := TX6) (N := 11) (q0 := 0) (k := 10) hx hb hts hin_X6 hown hK hP rfl rfl (by decide) hf_40 rfl rfl dX6_check_30 ?_
        refine li_if_ne_t (tgt := 40) hx hb dX6_check_33 (by decide) (by decide) (by decide) ?_
        refine li_const hx hb dX6_check_40 ?_
        exact li_zret () hx hb hr hlocks hK hP hD hS (by decide) dX6_check_41 hQ (by unfold chA; repeat (first | rw [if_pos (by omega)] | rw [if_neg (by omega)])) (congrArg iI (by unfold chA; (repeat' split) <;> first | rfl | (exfalso; omega)))
    · refine li_const hx hb dX6_check_13 ?_
      refine lv_goto (tgt := 26) hx hb dX6_check_14 (by decide) ?_
      refine li_put (ci := 6) (v := .int (iI 2)) (ty := .int) (C := RX6) (T := TX6) (N := 11) (q0 := 0) (k := 10) (w2 := cMd cI n L a rn sp cnt 2 (rowF w op tn pl en kd nb) as ln dr M0 M1 M2 M3 M4) hx hb hts hin_X6 tyX6_ok nmX6 hown hK hP hD hS rfl rfl (by decide) hf_40 rfl rfl (by decide +kernel) rfl rfl (Nat.le_of_ble_eq_true rfl) dX6_check_26 rfl (fun H locs hP hD hS => ?_)
      refine lv_aload_n hx hb dX6_check_29 rfl (lv_at hl 0 rfl) ?_
      refine li_get (ci := 6) (v := .int (iI 2)) (C := RX6) (T := TX6) (N := 11) (q0 := 0) (k := 10) hx hb hts hin_X6 hown hK hP rfl rfl (by decide) hf_40 rfl rfl dX6_check_30 ?_
      refine li_if_ne_t (tgt := 40) hx hb dX6_check_33 (by decide) (by decide) (by decide) ?_
      refine li_const hx hb dX6_check_40 ?_
      exact li_zret () hx hb hr hlocks hK hP hD hS (by decide) dX6_check_41 hQ (by unfold chA; repeat (first | rw [if_pos (by omega)] | rw [if_neg (by omega)])) (congrArg iI (by unfold chA; (repeat' split) <;> first | rfl | (exfalso; omega)))
  · refine li_const hx hb dX6_check_5 ?_
    refine lv_goto (tgt := 26) hx hb dX6_check_6 (by decide) ?_
    refine li_put (ci := 6) (v := .int (iI 1)) (ty := .int) (C := RX6) (T := TX6) (N := 11) (q0 := 0) (k := 10) (w2 := cMd cI n L a rn sp cnt 1 (rowF w op tn pl en kd nb) as ln dr M0 M1 M2 M3 M4) hx hb hts hin_X6 tyX6_ok nmX6 hown hK hP hD hS rfl rfl (by decide) hf_40 rfl rfl (by decide +kernel) rfl rfl (Nat.le_of_ble_eq_true rfl) dX6_check_26 rfl (fun H locs hP hD hS => ?_)
    refine lv_aload_n hx hb dX6_check_29 rfl (lv_at hl 0 rfl) ?_
    refine li_get (ci := 6) (v := .int (iI 1)) (C := RX6) (T := TX6) (N := 11) (q0 := 0) (k := 10) hx hb hts hin_X6 hown hK hP rfl rfl (by decide) hf_40 rfl rfl dX6_check_30 ?_
    refine li_if_ne_t (tgt := 40) hx hb dX6_check_33 (by decide) (by decide) (by decide) ?_
    refine li_const hx hb dX6_check_40 ?_
    exact li_zret () hx hb hr hlocks hK hP hD hS (by decide) dX6_check_41 hQ (by unfold chA; repeat (first | rw [if_pos (by omega)] | rw [if_neg (by omega)])) (congrArg iI (by unfold chA; (repeat' split) <;> first | rfl | (exfalso; omega)))

set_option maxRecDepth 100000 in
set_option maxHeartbeats 4000000 in
theorem c_X6_thrown {l : Launch} {D : va_G} {cI cZ cJ : ClassId} (n : Int) (L : Int) (a : Int) (rn : Int) (sp : Int) (cnt : Int) (th : Int) (w : Wt) (op : Int → Int) (tn : Int → Int) (pl : Int → Int) (en : Int) (kd : Int → Int) (nb : Int → Int) (as : Int → Int) (ln : Int → Int) (dr : Int → Int) (M0 M1 M2 M3 M4 : Nat)  : Di l yX6_thrown wsX6_thrown 1 [.ref M0] D (ty3 cI cZ cJ) (cMd cI n L a rn sp cnt th (rowF w op tn pl en kd nb) as ln dr M0 M1 M2 M3 M4) (th) (cMd cI n L a rn sp cnt th (rowF w op tn pl en kd nb) as ln dr M0 M1 M2 M3 M4) := by
  refine ct_i (plainFor_of_name (by decide)) rfl (Nat.le_of_ble_eq_true rfl) ?_
  intro p e s mI args below meth c_0 ls A hx hb hr hml hts hown hlocks hin hA hP hK hD hNW hS hl Q hQ
  have hown : s.vm.findClass RX6 = some mI.cls := hown
  have hl : lv_has ls 1 [(0, .ref M0)] := hl
  have hin_X6 : ∀ w ∈ wsX60, w ∈ wsX6_thrown := by decide +kernel
  have hf_40 := hts (.fieldLink RX6 40 "LockStaircaseModel" "thrown" "I") (by decide +kernel)
  refine lv_aload_n hx hb dX6_thrown_0 rfl (lv_at hl 0 rfl) ?_
  refine li_get (ci := 6) (v := .int (iI th)) (C := RX6) (T := TX6) (N := 11) (q0 := 0) (k := 10) hx hb hts hin_X6 hown hK hP rfl rfl (by decide) hf_40 rfl rfl dX6_thrown_1 ?_
  exact li_iret () hx hb hr hlocks hK hP hD hS dX6_thrown_4 hQ rfl (congrArg iI (rfl))

set_option maxRecDepth 100000 in
set_option maxHeartbeats 4000000 in
theorem c_X6_isChamber {l : Launch} {D : va_G} {cI cZ cJ : ClassId} (n : Int) (L : Int) (a : Int) (rn : Int) (sp : Int) (cnt : Int) (th : Int) (w : Wt) (op : Int → Int) (tn : Int → Int) (pl : Int → Int) (en : Int) (kd : Int → Int) (nb : Int → Int) (as : Int → Int) (ln : Int → Int) (dr : Int → Int) (M0 M1 M2 M3 M4 : Nat) (x : Int) (hn : 1 ≤ n ∧ n ≤ 6) (hL : 5 ≤ L ∧ L ≤ 40) (ha : 1 ≤ a ∧ a ≤ 50) (i_x : -2147483648 ≤ x ∧ x < 2147483648) : Di l yX6_isChamber wsX6_isChamber 2 [.ref M0, .int (iI x)] D (ty3 cI cZ cJ) (cMd cI n L a rn sp cnt th (rowF w op tn pl en kd nb) as ln dr M0 M1 M2 M3 M4) (bz (0 ≤ x ∧ x ≤ n - 1)) (cMd cI n L a rn sp cnt th (rowF w op tn pl en kd nb) as ln dr M0 M1 M2 M3 M4) := by
  refine ct_i (plainFor_of_name (by decide)) rfl (Nat.le_of_ble_eq_true rfl) ?_
  intro p e s mI args below meth c_0 ls A hx hb hr hml hts hown hlocks hin hA hP hK hD hNW hS hl Q hQ
  have hown : s.vm.findClass RX6 = some mI.cls := hown
  have hl : lv_has ls 2 [(0, .ref M0), (1, .int (iI x))] := hl
  have hin_X6 : ∀ w ∈ wsX60, w ∈ wsX6_isChamber := by decide +kernel
  have hf_26 := hts (.fieldLink RX6 26 "LockStaircaseModel" "chambers" "I") (by decide +kernel)
  refine lv_iload_n hx hb dX6_isChamber_0 rfl (lv_at hl 1 rfl) ?_
  refine li_const hx hb dX6_isChamber_1 ?_
  refine lv_aload_n hx hb dX6_isChamber_2 rfl (lv_at hl 0 rfl) ?_
  refine li_get (ci := 6) (v := .int (iI n)) (C := RX6) (T := TX6) (N := 11) (q0 := 0) (k := 0) hx hb hts hin_X6 hown hK hP rfl rfl (by decide) hf_26 rfl rfl dX6_isChamber_3 ?_
  refine li_const hx hb dX6_isChamber_6 ?_
  refine li_sub hx hb dX6_isChamber_7 ?_
  refine cs_i0 (isC := []) (isR := [0, 1, 2, 3, 4]) (isN := [0, 1, 2, 3, 4]) (wr := cMd cI n L a rn sp cnt th (rowF w op tn pl en kd nb) as ln dr M0 M1 M2 M3 M4) (wn := cMd cI n L a rn sp cnt th (rowF w op tn pl en kd nb) as ln dr M0 M1 M2 M3 M4) (As := [.int (iI x), .int (iI 0), .int (iI (n - 1))]) (rest := []) (r := bz (0 ≤ x ∧ x ≤ (n - 1))) ⟨hx, hb, hml, hown, hts⟩ (c_X6_isWithin x 0 (n - 1) (by first | assumption | omega) (by first | assumption | omega) (by first | assumption | omega)) (va_cwS 3 hts gX6_isChamber_X6_isWithin rfl rfl rfl (by decide +kernel) ⟨Nat.le_of_ble_eq_true rfl, Nat.le_of_ble_eq_true rfl⟩) hK hNW hP hD hS hA rfl rfl rfl rfl (by decide) rfl rfl rfl hl.1 rfl (Nat.le_of_ble_eq_true rfl) dX6_isChamber_8 ⟨Nat.zero_le _, Nat.zero_le _⟩ (fun H locs hP hD hS => ?_)
  exact li_zret () hx hb hr hlocks hK hP hD hS (by exact bz_01 _) dX6_isChamber_11 hQ rfl (congrArg iI (rfl))

set_option maxRecDepth 100000 in
set_option maxHeartbeats 4000000 in
theorem c_X6_isGate {l : Launch} {D : va_G} {cI cZ cJ : ClassId} (n : Int) (L : Int) (a : Int) (rn : Int) (sp : Int) (cnt : Int) (th : Int) (w : Wt) (op : Int → Int) (tn : Int → Int) (pl : Int → Int) (en : Int) (kd : Int → Int) (nb : Int → Int) (as : Int → Int) (ln : Int → Int) (dr : Int → Int) (M0 M1 M2 M3 M4 : Nat) (x : Int) (hn : 1 ≤ n ∧ n ≤ 6) (hL : 5 ≤ L ∧ L ≤ 40) (ha : 1 ≤ a ∧ a ≤ 50) (i_x : -2147483648 ≤ x ∧ x < 2147483648) : Di l yX6_isGate wsX6_isGate 2 [.ref M0, .int (iI x)] D (ty3 cI cZ cJ) (cMd cI n L a rn sp cnt th (rowF w op tn pl en kd nb) as ln dr M0 M1 M2 M3 M4) (bz (0 ≤ x ∧ x ≤ n)) (cMd cI n L a rn sp cnt th (rowF w op tn pl en kd nb) as ln dr M0 M1 M2 M3 M4) := by
  refine ct_i (plainFor_of_name (by decide)) rfl (Nat.le_of_ble_eq_true rfl) ?_
  intro p e s mI args below meth c_0 ls A hx hb hr hml hts hown hlocks hin hA hP hK hD hNW hS hl Q hQ
  have hown : s.vm.findClass RX6 = some mI.cls := hown
  have hl : lv_has ls 2 [(0, .ref M0), (1, .int (iI x))] := hl
  have hin_X6 : ∀ w ∈ wsX60, w ∈ wsX6_isGate := by decide +kernel
  have hf_26 := hts (.fieldLink RX6 26 "LockStaircaseModel" "chambers" "I") (by decide +kernel)
  refine lv_iload_n hx hb dX6_isGate_0 rfl (lv_at hl 1 rfl) ?_
  refine li_const hx hb dX6_isGate_1 ?_
  refine lv_aload_n hx hb dX6_isGate_2 rfl (lv_at hl 0 rfl) ?_
  refine li_get (ci := 6) (v := .int (iI n)) (C := RX6) (T := TX6) (N := 11) (q0 := 0) (k := 0) hx hb hts hin_X6 hown hK hP rfl rfl (by decide) hf_26 rfl rfl dX6_isGate_3 ?_
  refine cs_i0 (isC := []) (isR := [0, 1, 2, 3, 4]) (isN := [0, 1, 2, 3, 4]) (wr := cMd cI n L a rn sp cnt th (rowF w op tn pl en kd nb) as ln dr M0 M1 M2 M3 M4) (wn := cMd cI n L a rn sp cnt th (rowF w op tn pl en kd nb) as ln dr M0 M1 M2 M3 M4) (As := [.int (iI x), .int (iI 0), .int (iI n)]) (rest := []) (r := bz (0 ≤ x ∧ x ≤ n)) ⟨hx, hb, hml, hown, hts⟩ (c_X6_isWithin x 0 n (by first | assumption | omega) (by first | assumption | omega) (by first | assumption | omega)) (va_cwS 3 hts gX6_isGate_X6_isWithin rfl rfl rfl (by decide +kernel) ⟨Nat.le_of_ble_eq_true rfl, Nat.le_of_ble_eq_true rfl⟩) hK hNW hP hD hS hA rfl rfl rfl rfl (by decide) rfl rfl rfl hl.1 rfl (Nat.le_of_ble_eq_true rfl) dX6_isGate_6 ⟨Nat.zero_le _, Nat.zero_le _⟩ (fun H locs hP hD hS => ?_)
  exact li_zret () hx hb hr hlocks hK hP hD hS (by exact bz_01 _) dX6_isGate_9 hQ rfl (congrArg iI (rfl))

set_option maxRecDepth 100000 in
set_option maxHeartbeats 4000000 in
theorem c_X6_isPlace {l : Launch} {D : va_G} {cI cZ cJ : ClassId} (n : Int) (L : Int) (a : Int) (rn : Int) (sp : Int) (cnt : Int) (th : Int) (w : Wt) (op : Int → Int) (tn : Int → Int) (pl : Int → Int) (en : Int) (kd : Int → Int) (nb : Int → Int) (as : Int → Int) (ln : Int → Int) (dr : Int → Int) (M0 M1 M2 M3 M4 : Nat) (x : Int) (hn : 1 ≤ n ∧ n ≤ 6) (hL : 5 ≤ L ∧ L ≤ 40) (ha : 1 ≤ a ∧ a ≤ 50) (i_x : -2147483648 ≤ x ∧ x < 2147483648) : Di l yX6_isPlace wsX6_isPlace 2 [.ref M0, .int (iI x)] D (ty3 cI cZ cJ) (cMd cI n L a rn sp cnt th (rowF w op tn pl en kd nb) as ln dr M0 M1 M2 M3 M4) (bz (0 ≤ x ∧ x ≤ n + 1)) (cMd cI n L a rn sp cnt th (rowF w op tn pl en kd nb) as ln dr M0 M1 M2 M3 M4) := by
  refine ct_i (plainFor_of_name (by decide)) rfl (Nat.le_of_ble_eq_true rfl) ?_
  intro p e s mI args below meth c_0 ls A hx hb hr hml hts hown hlocks hin hA hP hK hD hNW hS hl Q hQ
  have hown : s.vm.findClass RX6 = some mI.cls := hown
  have hl : lv_has ls 2 [(0, .ref M0), (1, .int (iI x))] := hl
  have hin_X6 : ∀ w ∈ wsX60, w ∈ wsX6_isPlace := by decide +kernel
  have hf_26 := hts (.fieldLink RX6 26 "LockStaircaseModel" "chambers" "I") (by decide +kernel)
  refine lv_iload_n hx hb dX6_isPlace_0 rfl (lv_at hl 1 rfl) ?_
  refine li_const hx hb dX6_isPlace_1 ?_
  refine lv_aload_n hx hb dX6_isPlace_2 rfl (lv_at hl 0 rfl) ?_
  refine li_get (ci := 6) (v := .int (iI n)) (C := RX6) (T := TX6) (N := 11) (q0 := 0) (k := 0) hx hb hts hin_X6 hown hK hP rfl rfl (by decide) hf_26 rfl rfl dX6_isPlace_3 ?_
  refine li_const hx hb dX6_isPlace_6 ?_
  refine li_add hx hb dX6_isPlace_7 ?_
  refine cs_i0 (isC := []) (isR := [0, 1, 2, 3, 4]) (isN := [0, 1, 2, 3, 4]) (wr := cMd cI n L a rn sp cnt th (rowF w op tn pl en kd nb) as ln dr M0 M1 M2 M3 M4) (wn := cMd cI n L a rn sp cnt th (rowF w op tn pl en kd nb) as ln dr M0 M1 M2 M3 M4) (As := [.int (iI x), .int (iI 0), .int (iI (n + 1))]) (rest := []) (r := bz (0 ≤ x ∧ x ≤ (n + 1))) ⟨hx, hb, hml, hown, hts⟩ (c_X6_isWithin x 0 (n + 1) (by first | assumption | omega) (by first | assumption | omega) (by first | assumption | omega)) (va_cwS 3 hts gX6_isPlace_X6_isWithin rfl rfl rfl (by decide +kernel) ⟨Nat.le_of_ble_eq_true rfl, Nat.le_of_ble_eq_true rfl⟩) hK hNW hP hD hS hA rfl rfl rfl rfl (by decide) rfl rfl rfl hl.1 rfl (Nat.le_of_ble_eq_true rfl) dX6_isPlace_8 ⟨Nat.zero_le _, Nat.zero_le _⟩ (fun H locs hP hD hS => ?_)
  exact li_zret () hx hb hr hlocks hK hP hD hS (by exact bz_01 _) dX6_isPlace_11 hQ rfl (congrArg iI (rfl))

set_option maxRecDepth 100000 in
set_option maxHeartbeats 4000000 in
theorem c_X6_isBoat {l : Launch} {D : va_G} {cI cZ cJ : ClassId} (n : Int) (L : Int) (a : Int) (rn : Int) (sp : Int) (cnt : Int) (th : Int) (w : Wt) (op : Int → Int) (tn : Int → Int) (pl : Int → Int) (en : Int) (kd : Int → Int) (nb : Int → Int) (as : Int → Int) (ln : Int → Int) (dr : Int → Int) (M0 M1 M2 M3 M4 : Nat) (x : Int) (hcnt : 0 ≤ cnt ∧ cnt ≤ 10) (i_x : -2147483648 ≤ x ∧ x < 2147483648) : Di l yX6_isBoat wsX6_isBoat 2 [.ref M0, .int (iI x)] D (ty3 cI cZ cJ) (cMd cI n L a rn sp cnt th (rowF w op tn pl en kd nb) as ln dr M0 M1 M2 M3 M4) (bz (0 ≤ x ∧ x ≤ cnt - 1)) (cMd cI n L a rn sp cnt th (rowF w op tn pl en kd nb) as ln dr M0 M1 M2 M3 M4) := by
  refine ct_i (plainFor_of_name (by decide)) rfl (Nat.le_of_ble_eq_true rfl) ?_
  intro p e s mI args below meth c_0 ls A hx hb hr hml hts hown hlocks hin hA hP hK hD hNW hS hl Q hQ
  have hown : s.vm.findClass RX6 = some mI.cls := hown
  have hl : lv_has ls 2 [(0, .ref M0), (1, .int (iI x))] := hl
  have hin_X6 : ∀ w ∈ wsX60, w ∈ wsX6_isBoat := by decide +kernel
  have hf_56 := hts (.fieldLink RX6 56 "LockStaircaseModel" "boats" "I") (by decide +kernel)
  refine lv_iload_n hx hb dX6_isBoat_0 rfl (lv_at hl 1 rfl) ?_
  refine li_const hx hb dX6_isBoat_1 ?_
  refine lv_aload_n hx hb dX6_isBoat_2 rfl (lv_at hl 0 rfl) ?_
  refine li_get (ci := 6) (v := .int (iI cnt)) (C := RX6) (T := TX6) (N := 11) (q0 := 0) (k := 9) hx hb hts hin_X6 hown hK hP rfl rfl (by decide) hf_56 rfl rfl dX6_isBoat_3 ?_
  refine li_const hx hb dX6_isBoat_6 ?_
  refine li_sub hx hb dX6_isBoat_7 ?_
  refine cs_i0 (isC := []) (isR := [0, 1, 2, 3, 4]) (isN := [0, 1, 2, 3, 4]) (wr := cMd cI n L a rn sp cnt th (rowF w op tn pl en kd nb) as ln dr M0 M1 M2 M3 M4) (wn := cMd cI n L a rn sp cnt th (rowF w op tn pl en kd nb) as ln dr M0 M1 M2 M3 M4) (As := [.int (iI x), .int (iI 0), .int (iI (cnt - 1))]) (rest := []) (r := bz (0 ≤ x ∧ x ≤ (cnt - 1))) ⟨hx, hb, hml, hown, hts⟩ (c_X6_isWithin x 0 (cnt - 1) (by first | assumption | omega) (by first | assumption | omega) (by first | assumption | omega)) (va_cwS 3 hts gX6_isBoat_X6_isWithin rfl rfl rfl (by decide +kernel) ⟨Nat.le_of_ble_eq_true rfl, Nat.le_of_ble_eq_true rfl⟩) hK hNW hP hD hS hA rfl rfl rfl rfl (by decide) rfl rfl rfl hl.1 rfl (Nat.le_of_ble_eq_true rfl) dX6_isBoat_8 ⟨Nat.zero_le _, Nat.zero_le _⟩ (fun H locs hP hD hS => ?_)
  exact li_zret () hx hb hr hlocks hK hP hD hS (by exact bz_01 _) dX6_isBoat_11 hQ rfl (congrArg iI (rfl))

set_option maxRecDepth 100000 in
set_option maxHeartbeats 4000000 in
theorem c_X6_full {l : Launch} {D : va_G} {cI cZ cJ : ClassId} (n : Int) (L : Int) (a : Int) (rn : Int) (sp : Int) (cnt : Int) (th : Int) (w : Wt) (op : Int → Int) (tn : Int → Int) (pl : Int → Int) (en : Int) (kd : Int → Int) (nb : Int → Int) (as : Int → Int) (ln : Int → Int) (dr : Int → Int) (M0 M1 M2 M3 M4 : Nat)  : Di l yX6_full wsX6_full 1 [.ref M0] D (ty3 cI cZ cJ) (cMd cI n L a rn sp cnt th (rowF w op tn pl en kd nb) as ln dr M0 M1 M2 M3 M4) (20 * a) (cMd cI n L a rn sp cnt th (rowF w op tn pl en kd nb) as ln dr M0 M1 M2 M3 M4) := by
  refine ct_i (plainFor_of_name (by decide)) rfl (Nat.le_of_ble_eq_true rfl) ?_
  intro p e s mI args below meth c_0 ls A hx hb hr hml hts hown hlocks hin hA hP hK hD hNW hS hl Q hQ
  have hown : s.vm.findClass RX6 = some mI.cls := hown
  have hl : lv_has ls 1 [(0, .ref M0)] := hl
  have hin_X6 : ∀ w ∈ wsX60, w ∈ wsX6_full := by decide +kernel
  have hf_33 := hts (.fieldLink RX6 33 "LockStaircaseModel" "area" "I") (by decide +kernel)
  refine li_bipush hx hb dX6_full_0 (by decide) ?_
  refine lv_aload_n hx hb dX6_full_2 rfl (lv_at hl 0 rfl) ?_
  refine li_get (ci := 6) (v := .int (iI a)) (C := RX6) (T := TX6) (N := 11) (q0 := 0) (k := 2) hx hb hts hin_X6 hown hK hP rfl rfl (by decide) hf_33 rfl rfl dX6_full_3 ?_
  refine li_mul hx hb dX6_full_6 ?_
  exact li_iret () hx hb hr hlocks hK hP hD hS dX6_full_7 hQ rfl (congrArg iI (rfl))

set_option maxRecDepth 100000 in
set_option maxHeartbeats 4000000 in
theorem c_X6_depth {l : Launch} {D : va_G} {cI cZ cJ : ClassId} (n : Int) (L : Int) (a : Int) (rn : Int) (sp : Int) (cnt : Int) (th : Int) (w : Wt) (op : Int → Int) (tn : Int → Int) (pl : Int → Int) (en : Int) (kd : Int → Int) (nb : Int → Int) (as : Int → Int) (ln : Int → Int) (dr : Int → Int) (M0 M1 M2 M3 M4 : Nat) (hn : 1 ≤ n ∧ n ≤ 6) (hL : 5 ≤ L ∧ L ≤ 40) (ha : 1 ≤ a ∧ a ≤ 50) (hw : WI n L a w) : Di l yX6_depth wsX6_depth 2 [.ref M0] D (ty3 cI cZ cJ) (cMd cI n L a rn sp cnt th (rowF w op tn pl en kd nb) as ln dr M0 M1 M2 M3 M4) (w.1 / a) (cMd cI n L a rn sp cnt th (rowF w op tn pl en kd nb) as ln dr M0 M1 M2 M3 M4) := by
  refine ct_i (plainFor_of_name (by decide)) rfl (Nat.le_of_ble_eq_true rfl) ?_
  intro p e s mI args below meth c_0 ls A hx hb hr hml hts hown hlocks hin hA hP hK hD hNW hS hl Q hQ
  have hown : s.vm.findClass RX6 = some mI.cls := hown
  have hl : lv_has ls 1 [(0, .ref M0)] := hl
  have hin_X6 : ∀ w ∈ wsX60, w ∈ wsX6_depth := by decide +kernel
  have hf_33 := hts (.fieldLink RX6 33 "LockStaircaseModel" "area" "I") (by decide +kernel)
  have hf_9 := hts (.fieldLink RX6 9 "LockStaircaseModel" "row" "[I") (by decide +kernel)
  have hw1 : -1000 ≤ w.1 ∧ w.1 ≤ 20 * a := hw.1
  refine lv_aload_n hx hb dX6_depth_0 rfl (lv_at hl 0 rfl) ?_
  refine li_get (ci := 6) (v := .ref M1) (C := RX6) (T := TX6) (N := 11) (q0 := 0) (k := 5) hx hb hts hin_X6 hown hK hP rfl rfl (by decide) hf_9 rfl rfl dX6_depth_1 ?_
  refine li_const hx hb dX6_depth_4 ?_
  refine li_iald (q0 := 1) (t0 := 0) (g := (rowF w op tn pl en kd nb)) hx hb hK hP rfl rfl (by omega) (by omega) (by decide) dX6_depth_5 ?_
  refine li_top (b := w.1) (rd_W rfl) ?_
  refine lv_aload_n hx hb dX6_depth_6 rfl (lv_at hl 0 rfl) ?_
  refine li_get (ci := 6) (v := .int (iI a)) (C := RX6) (T := TX6) (N := 11) (q0 := 0) (k := 2) hx hb hts hin_X6 hown hK hP rfl rfl (by decide) hf_33 rfl rfl dX6_depth_7 ?_
  refine cs_i0 (isC := []) (isR := [0, 1, 2, 3, 4]) (isN := [0, 1, 2, 3, 4]) (wr := cMd cI n L a rn sp cnt th (rowF w op tn pl en kd nb) as ln dr M0 M1 M2 M3 M4) (wn := cMd cI n L a rn sp cnt th (rowF w op tn pl en kd nb) as ln dr M0 M1 M2 M3 M4) (As := [.int (iI w.1), .int (iI a)]) (rest := []) (r := w.1 / a) ⟨hx, hb, hml, hown, hts⟩ (c_J9_floorDiv_7cf53 w.1 a (by first | assumption | omega) (by first | assumption | omega)) (va_cwS 2 hts gX6_depth_J9_floorDiv_7cf53 rfl rfl rfl (by decide +kernel) ⟨Nat.le_of_ble_eq_true rfl, Nat.le_of_ble_eq_true rfl⟩) hK hNW hP hD hS hA rfl rfl rfl rfl (by decide) rfl rfl rfl hl.1 rfl (Nat.le_of_ble_eq_true rfl) dX6_depth_10 ⟨Nat.zero_le _, Nat.zero_le _⟩ (fun H locs hP hD hS => ?_)
  exact li_iret () hx hb hr hlocks hK hP hD hS dX6_depth_13 hQ rfl (congrArg iI (rfl))

set_option maxRecDepth 100000 in
set_option maxHeartbeats 4000000 in
theorem c_X6_level {l : Launch} {D : va_G} {cI cZ cJ : ClassId} (n : Int) (L : Int) (a : Int) (rn : Int) (sp : Int) (cnt : Int) (th : Int) (w : Wt) (op : Int → Int) (tn : Int → Int) (pl : Int → Int) (en : Int) (kd : Int → Int) (nb : Int → Int) (as : Int → Int) (ln : Int → Int) (dr : Int → Int) (M0 M1 M2 M3 M4 : Nat) (x : Int) (hn : 1 ≤ n ∧ n ≤ 6) (hL : 5 ≤ L ∧ L ≤ 40) (ha : 1 ≤ a ∧ a ≤ 50) (hx9 : 0 ≤ x ∧ x < n) : Di l yX6_level wsX6_level 1 [.ref M0, .int (iI x)] D (ty3 cI cZ cJ) (cMd cI n L a rn sp cnt th (rowF w op tn pl en kd nb) as ln dr M0 M1 M2 M3 M4) (x * L + w.2.2.2 x) (cMd cI n L a rn sp cnt th (rowF w op tn pl en kd nb) as ln dr M0 M1 M2 M3 M4) := by
  refine ct_i (plainFor_of_name (by decide)) rfl (Nat.le_of_ble_eq_true rfl) ?_
  intro p e s mI args below meth c_0 ls A hx hb hr hml hts hown hlocks hin hA hP hK hD hNW hS hl Q hQ
  have hown : s.vm.findClass RX6 = some mI.cls := hown
  have hl : lv_has ls 2 [(0, .ref M0), (1, .int (iI x))] := hl
  have hin_X6 : ∀ w ∈ wsX60, w ∈ wsX6_level := by decide +kernel
  have hf_30 := hts (.fieldLink RX6 30 "LockStaircaseModel" "lift" "I") (by decide +kernel)
  have hf_9 := hts (.fieldLink RX6 9 "LockStaircaseModel" "row" "[I") (by decide +kernel)
  refine lv_aload_n hx hb dX6_level_0 rfl (lv_at hl 0 rfl) ?_
  refine li_get (ci := 6) (v := .int (iI L)) (C := RX6) (T := TX6) (N := 11) (q0 := 0) (k := 1) hx hb hts hin_X6 hown hK hP rfl rfl (by decide) hf_30 rfl rfl dX6_level_1 ?_
  refine lv_iload_n hx hb dX6_level_4 rfl (lv_at hl 1 rfl) ?_
  refine li_mul hx hb dX6_level_5 ?_
  refine lv_aload_n hx hb dX6_level_6 rfl (lv_at hl 0 rfl) ?_
  refine li_get (ci := 6) (v := .ref M1) (C := RX6) (T := TX6) (N := 11) (q0 := 0) (k := 5) hx hb hts hin_X6 hown hK hP rfl rfl (by decide) hf_9 rfl rfl dX6_level_7 ?_
  refine li_const hx hb dX6_level_10 ?_
  refine lv_iload_n hx hb dX6_level_11 rfl (lv_at hl 1 rfl) ?_
  refine li_add hx hb dX6_level_12 ?_
  refine li_iald (q0 := 1) (t0 := 0) (g := (rowF w op tn pl en kd nb)) hx hb hK hP rfl rfl (by omega) (by omega) (ib_i (by omega) (by omega)) dX6_level_13 ?_
  refine li_top (b := w.2.2.2 x) (rd_u (c := x) (by omega) (by omega) (by omega)) ?_
  refine li_add hx hb dX6_level_14 ?_
  exact li_iret () hx hb hr hlocks hK hP hD hS dX6_level_15 hQ rfl (congrArg iI (by rw [Int.mul_comm L x]))

set_option maxRecDepth 100000 in
set_option maxHeartbeats 4000000 in
theorem c_X6_pound {l : Launch} {D : va_G} {cI cZ cJ : ClassId} (n : Int) (L : Int) (a : Int) (rn : Int) (sp : Int) (cnt : Int) (th : Int) (w : Wt) (op : Int → Int) (tn : Int → Int) (pl : Int → Int) (en : Int) (kd : Int → Int) (nb : Int → Int) (as : Int → Int) (ln : Int → Int) (dr : Int → Int) (M0 M1 M2 M3 M4 : Nat) (hn : 1 ≤ n ∧ n ≤ 6) (hL : 5 ≤ L ∧ L ≤ 40) (ha : 1 ≤ a ∧ a ≤ 50) (hw : WI n L a w) : Di l yX6_pound wsX6_pound 3 [.ref M0] D (ty3 cI cZ cJ) (cMd cI n L a rn sp cnt th (rowF w op tn pl en kd nb) as ln dr M0 M1 M2 M3 M4) (lvA n L a w n) (cMd cI n L a rn sp cnt th (rowF w op tn pl en kd nb) as ln dr M0 M1 M2 M3 M4) := by
  refine ct_i (plainFor_of_name (by decide)) rfl (Nat.le_of_ble_eq_true rfl) ?_
  intro p e s mI args below meth c_0 ls A hx hb hr hml hts hown hlocks hin hA hP hK hD hNW hS hl Q hQ
  have hown : s.vm.findClass RX6 = some mI.cls := hown
  have hl : lv_has ls 1 [(0, .ref M0)] := hl
  have hin_X6 : ∀ w ∈ wsX60, w ∈ wsX6_pound := by decide +kernel
  have hf_26 := hts (.fieldLink RX6 26 "LockStaircaseModel" "chambers" "I") (by decide +kernel)
  have hf_30 := hts (.fieldLink RX6 30 "LockStaircaseModel" "lift" "I") (by decide +kernel)
  refine lv_aload_n hx hb dX6_pound_0 rfl (lv_at hl 0 rfl) ?_
  refine li_get (ci := 6) (v := .int (iI L)) (C := RX6) (T := TX6) (N := 11) (q0 := 0) (k := 1) hx hb hts hin_X6 hown hK hP rfl rfl (by decide) hf_30 rfl rfl dX6_pound_1 ?_
  refine lv_aload_n hx hb dX6_pound_4 rfl (lv_at hl 0 rfl) ?_
  refine li_get (ci := 6) (v := .int (iI n)) (C := RX6) (T := TX6) (N := 11) (q0 := 0) (k := 0) hx hb hts hin_X6 hown hK hP rfl rfl (by decide) hf_26 rfl rfl dX6_pound_5 ?_
  refine li_mul hx hb dX6_pound_8 ?_
  refine li_bipush hx hb dX6_pound_9 (by decide) ?_
  refine li_sub hx hb dX6_pound_11 ?_
  refine lv_aload_n hx hb dX6_pound_12 rfl (lv_at hl 0 rfl) ?_
  refine cl_i0 (isC := [0, 1, 2, 3, 4]) (isR := []) (isN := [0, 1, 2, 3, 4]) (wr := []) (wn := cMd cI n L a rn sp cnt th (rowF w op tn pl en kd nb) as ln dr M0 M1 M2 M3 M4) (As := []) (rest := [.int (iI ((L * n) - 20))]) (r := w.1 / a) (ci := 6) (q0 := 0) ⟨hx, hb, hml, hown, hts⟩ (c_X6_depth n L a rn sp cnt th w op tn pl en kd nb as ln dr M0 M1 M2 M3 M4 (by first | assumption | omega) (by first | assumption | omega) (by first | assumption | omega) (by first | assumption | omega)) (cwV 0 hts gX6_pound_X6_depth rfl rfl rfl (by decide +kernel) ⟨Nat.le_of_ble_eq_true rfl, Nat.le_of_ble_eq_true rfl⟩) hK hNW hP hD hS hA rfl rfl rfl rfl (by decide) rfl rfl rfl rfl rfl rfl hl.1 rfl (Nat.le_of_ble_eq_true rfl) dX6_pound_13 ⟨Nat.zero_le _, Nat.zero_le _⟩ (fun H locs hP hD hS => ?_)
  refine li_add hx hb dX6_pound_16 ?_
  exact li_iret () hx hb hr hlocks hK hP hD hS dX6_pound_17 hQ rfl (congrArg iI (by rw [lvA_n hn, Int.mul_comm L n]))

set_option maxRecDepth 100000 in
set_option maxHeartbeats 4000000 in
theorem c_X6_head {l : Launch} {D : va_G} {cI cZ cJ : ClassId} (n : Int) (L : Int) (a : Int) (rn : Int) (sp : Int) (cnt : Int) (th : Int) (w : Wt) (op : Int → Int) (tn : Int → Int) (pl : Int → Int) (en : Int) (kd : Int → Int) (nb : Int → Int) (as : Int → Int) (ln : Int → Int) (dr : Int → Int) (M0 M1 M2 M3 M4 : Nat) (g : Int) (hn : 1 ≤ n ∧ n ≤ 6) (hL : 5 ≤ L ∧ L ≤ 40) (ha : 1 ≤ a ∧ a ≤ 50) (hw : WI n L a w) (hg : 0 ≤ g ∧ g ≤ n) : Di l yX6_head wsX6_head 4 [.ref M0, .int (iI g)] D (ty3 cI cZ cJ) (cMd cI n L a rn sp cnt th (rowF w op tn pl en kd nb) as ln dr M0 M1 M2 M3 M4) (hdA n L a w g) (cMd cI n L a rn sp cnt th (rowF w op tn pl en kd nb) as ln dr M0 M1 M2 M3 M4) := by
  refine ct_i (plainFor_of_name (by decide)) rfl (Nat.le_of_ble_eq_true rfl) ?_
  intro p e s mI args below meth c_0 ls A hx hb hr hml hts hown hlocks hin hA hP hK hD hNW hS hl Q hQ
  have hown : s.vm.findClass RX6 = some mI.cls := hown
  have hl : lv_has ls 4 [(0, .ref M0), (1, .int (iI g))] := hl
  have hin_X6 : ∀ w ∈ wsX60, w ∈ wsX6_head := by decide +kernel
  have hf_26 := hts (.fieldLink RX6 26 "LockStaircaseModel" "chambers" "I") (by decide +kernel)
  refine lv_iload_n hx hb dX6_head_0 rfl (lv_at hl 1 rfl) ?_
  refine lv_aload_n hx hb dX6_head_1 rfl (lv_at hl 0 rfl) ?_
  refine li_get (ci := 6) (v := .int (iI n)) (C := RX6) (T := TX6) (N := 11) (q0 := 0) (k := 0) hx hb hts hin_X6 hown hK hP rfl rfl (by decide) hf_26 rfl rfl dX6_head_2 ?_
  refine li_icmp_ne (tgt := 15) hx hb dX6_head_5 (by decide) (ib_i (by omega) (by omega)) (ib_i (by omega) (by omega)) (fun c_5 => ?_) (fun c_5 => ?_)
  · refine lv_aload_n hx hb dX6_head_15 rfl (lv_at hl 0 rfl) ?_
    refine lv_iload_n hx hb dX6_head_16 rfl (lv_at hl 1 rfl) ?_
    refine cl_i0 (isC := [0, 1, 2, 3, 4]) (isR := []) (isN := [0, 1, 2, 3, 4]) (wr := []) (wn := cMd cI n L a rn sp cnt th (rowF w op tn pl en kd nb) as ln dr M0 M1 M2 M3 M4) (As := [.int (iI g)]) (rest := []) (r := g * L + w.2.2.2 g) (ci := 6) (q0 := 0) ⟨hx, hb, hml, hown, hts⟩ (c_X6_level n L a rn sp cnt th w op tn pl en kd nb as ln dr M0 M1 M2 M3 M4 g (by first | assumption | omega) (by first | assumption | omega) (by first | assumption | omega) (by first | assumption | omega)) (cwV 1 hts gX6_head_X6_level rfl rfl rfl (by decide +kernel) ⟨Nat.le_of_ble_eq_true rfl, Nat.le_of_ble_eq_true rfl⟩) hK hNW hP hD hS hA rfl rfl rfl rfl (by decide) rfl rfl rfl rfl rfl rfl hl.1 rfl (Nat.le_of_ble_eq_true rfl) dX6_head_17 ⟨Nat.zero_le _, Nat.zero_le _⟩ (fun H locs hP hD hS => ?_)
    refine lv_istore_n (lv' := [(2, .int (iI (g * L + w.2.2.2 g))), (0, .ref M0), (1, .int (iI g))]) hx hb dX6_head_20 rfl hl (by decide) rfl (fun ls hl => ?_)
    refine lv_iload_n hx hb dX6_head_21 rfl (lv_at hl 2 rfl) ?_
    refine li_if_ne (tgt := 29) hx hb dX6_head_22 (by decide) (ib_i (by omega) (by omega)) (fun c_22 => ?_) (fun c_22 => ?_)
    · refine lv_aload_n hx hb dX6_head_29 rfl (lv_at hl 1 rfl) ?_
      refine lv_iload_n hx hb dX6_head_30 rfl (lv_at hl 2 rfl) ?_
      refine li_const hx hb dX6_head_31 ?_
      refine li_sub hx hb dX6_head_32 ?_
      refine cl_i0 (isC := [0, 1, 2, 3, 4]) (isR := []) (isN := [0, 1, 2, 3, 4]) (wr := []) (wn := cMd cI n L a rn sp cnt th (rowF w op tn pl en kd nb) as ln dr M0 M1 M2 M3 M4) (As := [.int (iI (g - 1))]) (rest := []) (r := (g - 1) * L + w.2.2.2 (g - 1)) (ci := 6) (q0 := 0) ⟨hx, hb, hml, hown, hts⟩ (c_X6_level n L a rn sp cnt th w op tn pl en kd nb as ln dr M0 M1 M2 M3 M4 (g - 1) (by first | assumption | omega) (by first | assumption | omega) (by first | assumption | omega) (by first | assumption | omega)) (cwV 1 hts gX6_head_X6_level rfl rfl rfl (by decide +kernel) ⟨Nat.le_of_ble_eq_true rfl, Nat.le_of_ble_eq_true rfl⟩) hK hNW hP hD hS hA rfl rfl rfl rfl (by decide) rfl rfl rfl rfl rfl rfl hl.1 rfl (Nat.le_of_ble_eq_true rfl) dX6_head_33 ⟨Nat.zero_le _, Nat.zero_le _⟩ (fun H locs hP hD hS => ?_)
      refine lv_istore_n (lv' := [(3, .int (iI ((g - 1) * L + w.2.2.2 (g - 1)))), (2, .int (iI (g * L + w.2.2.2 g))), (0, .ref M0), (1, .int (iI g))]) hx hb dX6_head_36 rfl hl (by decide) rfl (fun ls hl => ?_)
      refine lv_iload_n hx hb dX6_head_37 rfl (lv_at hl 1 rfl) ?_
      refine lv_iload_n hx hb dX6_head_38 rfl (lv_at hl 0 rfl) ?_
      refine li_sub hx hb dX6_head_39 ?_
      exact li_iret () hx hb hr hlocks hK hP hD hS dX6_head_40 hQ rfl (congrArg iI (by unfold hdA; first | (rw [c_5, lvA_c (k := n - 1) (by omega) (by omega)]; done) | (rw [lvA_c (k := g) (by omega) (by omega), lvA_m (k := g - 1) (by omega)]; done) | (rw [lvA_c (k := g) (by omega) (by omega), lvA_c (k := g - 1) (by omega) (by omega)]; done) | (exfalso; omega)))
    · refine li_const hx hb dX6_head_25 ?_
      refine lv_goto (tgt := 36) hx hb dX6_head_26 (by decide) ?_
      refine lv_istore_n (lv' := [(3, .int (iI 0)), (2, .int (iI (g * L + w.2.2.2 g))), (0, .ref M0), (1, .int (iI g))]) hx hb dX6_head_36 rfl hl (by decide) rfl (fun ls hl => ?_)
      refine lv_iload_n hx hb dX6_head_37 rfl (lv_at hl 1 rfl) ?_
      refine lv_iload_n hx hb dX6_head_38 rfl (lv_at hl 0 rfl) ?_
      refine li_sub hx hb dX6_head_39 ?_
      exact li_iret () hx hb hr hlocks hK hP hD hS dX6_head_40 hQ rfl (congrArg iI (by unfold hdA; first | (rw [c_5, lvA_c (k := n - 1) (by omega) (by omega)]; done) | (rw [lvA_c (k := g) (by omega) (by omega), lvA_m (k := g - 1) (by omega)]; done) | (rw [lvA_c (k := g) (by omega) (by omega), lvA_c (k := g - 1) (by omega) (by omega)]; done) | (exfalso; omega)))
  · refine lv_aload_n hx hb dX6_head_8 rfl (lv_at hl 0 rfl) ?_
    refine cl_i0 (isC := [0, 1, 2, 3, 4]) (isR := []) (isN := [0, 1, 2, 3, 4]) (wr := []) (wn := cMd cI n L a rn sp cnt th (rowF w op tn pl en kd nb) as ln dr M0 M1 M2 M3 M4) (As := []) (rest := []) (r := lvA n L a w n) (ci := 6) (q0 := 0) ⟨hx, hb, hml, hown, hts⟩ (c_X6_pound n L a rn sp cnt th w op tn pl en kd nb as ln dr M0 M1 M2 M3 M4 (by first | assumption | omega) (by first | assumption | omega) (by first | assumption | omega) (by first | assumption | omega)) (cwV 0 hts gX6_head_X6_pound rfl rfl rfl (by decide +kernel) ⟨Nat.le_of_ble_eq_true rfl, Nat.le_of_ble_eq_true rfl⟩) hK hNW hP hD hS hA rfl rfl rfl rfl (by decide) rfl rfl rfl rfl rfl rfl hl.1 rfl (Nat.le_of_ble_eq_true rfl) dX6_head_9 ⟨Nat.zero_le _, Nat.zero_le _⟩ (fun H locs hP hD hS => ?_)
    refine lv_goto (tgt := 20) hx hb dX6_head_12 (by decide) ?_
    refine lv_istore_n (lv' := [(2, .int (iI (lvA n L a w n))), (0, .ref M0), (1, .int (iI g))]) hx hb dX6_head_20 rfl hl (by decide) rfl (fun ls hl => ?_)
    refine lv_iload_n hx hb dX6_head_21 rfl (lv_at hl 2 rfl) ?_
    refine li_if_ne (tgt := 29) hx hb dX6_head_22 (by decide) (ib_i (by omega) (by omega)) (fun c_22 => ?_) (fun c_22 => ?_)
    · refine lv_aload_n hx hb dX6_head_29 rfl (lv_at hl 1 rfl) ?_
      refine lv_iload_n hx hb dX6_head_30 rfl (lv_at hl 2 rfl) ?_
      refine li_const hx hb dX6_head_31 ?_
      refine li_sub hx hb dX6_head_32 ?_
      refine cl_i0 (isC := [0, 1, 2, 3, 4]) (isR := []) (isN := [0, 1, 2, 3, 4]) (wr := []) (wn := cMd cI n L a rn sp cnt th (rowF w op tn pl en kd nb) as ln dr M0 M1 M2 M3 M4) (As := [.int (iI (g - 1))]) (rest := []) (r := (g - 1) * L + w.2.2.2 (g - 1)) (ci := 6) (q0 := 0) ⟨hx, hb, hml, hown, hts⟩ (c_X6_level n L a rn sp cnt th w op tn pl en kd nb as ln dr M0 M1 M2 M3 M4 (g - 1) (by first | assumption | omega) (by first | assumption | omega) (by first | assumption | omega) (by first | assumption | omega)) (cwV 1 hts gX6_head_X6_level rfl rfl rfl (by decide +kernel) ⟨Nat.le_of_ble_eq_true rfl, Nat.le_of_ble_eq_true rfl⟩) hK hNW hP hD hS hA rfl rfl rfl rfl (by decide) rfl rfl rfl rfl rfl rfl hl.1 rfl (Nat.le_of_ble_eq_true rfl) dX6_head_33 ⟨Nat.zero_le _, Nat.zero_le _⟩ (fun H locs hP hD hS => ?_)
      refine lv_istore_n (lv' := [(3, .int (iI ((g - 1) * L + w.2.2.2 (g - 1)))), (2, .int (iI (lvA n L a w n))), (0, .ref M0), (1, .int (iI g))]) hx hb dX6_head_36 rfl hl (by decide) rfl (fun ls hl => ?_)
      refine lv_iload_n hx hb dX6_head_37 rfl (lv_at hl 1 rfl) ?_
      refine lv_iload_n hx hb dX6_head_38 rfl (lv_at hl 0 rfl) ?_
      refine li_sub hx hb dX6_head_39 ?_
      exact li_iret () hx hb hr hlocks hK hP hD hS dX6_head_40 hQ rfl (congrArg iI (by unfold hdA; first | (rw [c_5, lvA_c (k := n - 1) (by omega) (by omega)]; done) | (rw [lvA_c (k := g) (by omega) (by omega), lvA_m (k := g - 1) (by omega)]; done) | (rw [lvA_c (k := g) (by omega) (by omega), lvA_c (k := g - 1) (by omega) (by omega)]; done) | (exfalso; omega)))
    · refine li_const hx hb dX6_head_25 ?_
      refine lv_goto (tgt := 36) hx hb dX6_head_26 (by decide) ?_
      refine lv_istore_n (lv' := [(3, .int (iI 0)), (2, .int (iI (lvA n L a w n))), (0, .ref M0), (1, .int (iI g))]) hx hb dX6_head_36 rfl hl (by decide) rfl (fun ls hl => ?_)
      refine lv_iload_n hx hb dX6_head_37 rfl (lv_at hl 1 rfl) ?_
      refine lv_iload_n hx hb dX6_head_38 rfl (lv_at hl 0 rfl) ?_
      refine li_sub hx hb dX6_head_39 ?_
      exact li_iret () hx hb hr hlocks hK hP hD hS dX6_head_40 hQ rfl (congrArg iI (by unfold hdA; first | (rw [c_5, lvA_c (k := n - 1) (by omega) (by omega)]; done) | (rw [lvA_c (k := g) (by omega) (by omega), lvA_m (k := g - 1) (by omega)]; done) | (rw [lvA_c (k := g) (by omega) (by omega), lvA_c (k := g - 1) (by omega) (by omega)]; done) | (exfalso; omega)))

set_option maxRecDepth 100000 in
set_option maxHeartbeats 4000000 in
theorem c_X6_isUp {l : Launch} {D : va_G} {cI cZ cJ : ClassId} (n : Int) (L : Int) (a : Int) (rn : Int) (sp : Int) (cnt : Int) (th : Int) (w : Wt) (op : Int → Int) (tn : Int → Int) (pl : Int → Int) (en : Int) (kd : Int → Int) (nb : Int → Int) (as : Int → Int) (ln : Int → Int) (dr : Int → Int) (M0 M1 M2 M3 M4 : Nat) (g : Int) (hn : 1 ≤ n ∧ n ≤ 6) (hL : 5 ≤ L ∧ L ≤ 40) (ha : 1 ≤ a ∧ a ≤ 50) (htn : tnB tn) (htz : ∀ g, n < g → tn g = 0) (i_g : -2147483648 ≤ g ∧ g < 2147483648) : Di l yX6_isUp wsX6_isUp 3 [.ref M0, .int (iI g)] D (ty3 cI cZ cJ) (cMd cI n L a rn sp cnt th (rowF w op tn pl en kd nb) as ln dr M0 M1 M2 M3 M4) (bz (0 < tnA tn g)) (cMd cI n L a rn sp cnt th (rowF w op tn pl en kd nb) as ln dr M0 M1 M2 M3 M4) := by
  refine ct_i (plainFor_of_name (by decide)) rfl (Nat.le_of_ble_eq_true rfl) ?_
  intro p e s mI args below meth c_0 ls A hx hb hr hml hts hown hlocks hin hA hP hK hD hNW hS hl Q hQ
  have hown : s.vm.findClass RX6 = some mI.cls := hown
  have hl : lv_has ls 2 [(0, .ref M0), (1, .int (iI g))] := hl
  have hin_X6 : ∀ w ∈ wsX60, w ∈ wsX6_isUp := by decide +kernel
  have hf_9 := hts (.fieldLink RX6 9 "LockStaircaseModel" "row" "[I") (by decide +kernel)
  have hz := htz g
  have ht := htn g
  refine lv_aload_n hx hb dX6_isUp_0 rfl (lv_at hl 0 rfl) ?_
  refine lv_iload_n hx hb dX6_isUp_1 rfl (lv_at hl 1 rfl) ?_
  refine cl_i0 (isC := [0, 1, 2, 3, 4]) (isR := []) (isN := [0, 1, 2, 3, 4]) (wr := []) (wn := cMd cI n L a rn sp cnt th (rowF w op tn pl en kd nb) as ln dr M0 M1 M2 M3 M4) (As := [.int (iI g)]) (rest := []) (r := bz (0 ≤ g ∧ g ≤ n)) (ci := 6) (q0 := 0) ⟨hx, hb, hml, hown, hts⟩ (c_X6_isGate n L a rn sp cnt th w op tn pl en kd nb as ln dr M0 M1 M2 M3 M4 g (by first | assumption | omega) (by first | assumption | omega) (by first | assumption | omega) (by first | assumption | omega)) (cwV 1 hts gX6_isUp_X6_isGate rfl rfl rfl (by decide +kernel) ⟨Nat.le_of_ble_eq_true rfl, Nat.le_of_ble_eq_true rfl⟩) hK hNW hP hD hS hA rfl rfl rfl rfl (by decide) rfl rfl rfl rfl rfl rfl hl.1 rfl (Nat.le_of_ble_eq_true rfl) dX6_isUp_2 ⟨Nat.zero_le _, Nat.zero_le _⟩ (fun H locs hP hD hS => ?_)
  refine li_ifb_eq (tgt := 24) hx hb dX6_isUp_5 (by decide) (fun c_5 => ?_) (fun c_5 => ?_)
  · refine li_const hx hb dX6_isUp_24 ?_
    exact li_zret () hx hb hr hlocks hK hP hD hS (by decide) dX6_isUp_25 hQ rfl (congrArg iI (by unfold tnA; first | exact (bz_t (by split <;> omega)).symm | exact (bz_f (by split <;> omega)).symm))
  · refine lv_aload_n hx hb dX6_isUp_8 rfl (lv_at hl 0 rfl) ?_
    refine li_get (ci := 6) (v := .ref M1) (C := RX6) (T := TX6) (N := 11) (q0 := 0) (k := 5) hx hb hts hin_X6 hown hK hP rfl rfl (by decide) hf_9 rfl rfl dX6_isUp_9 ?_
    refine li_bipush hx hb dX6_isUp_12 (by decide) ?_
    refine lv_iload_n hx hb dX6_isUp_14 rfl (lv_at hl 1 rfl) ?_
    refine li_add hx hb dX6_isUp_15 ?_
    refine li_iald (q0 := 1) (t0 := 0) (g := (rowF w op tn pl en kd nb)) hx hb hK hP rfl rfl (by omega) (by omega) (ib_i (by omega) (by omega)) dX6_isUp_16 ?_
    refine li_top (b := tn g) (rd_t (c := g) (by omega) (by omega) (by omega)) ?_
    refine li_if_le (tgt := 24) hx hb dX6_isUp_17 (by decide) (ib_i (by omega) (by omega)) (fun c_17 => ?_) (fun c_17 => ?_)
    · refine li_const hx hb dX6_isUp_24 ?_
      exact li_zret () hx hb hr hlocks hK hP hD hS (by decide) dX6_isUp_25 hQ rfl (congrArg iI (by unfold tnA; first | exact (bz_t (by split <;> omega)).symm | exact (bz_f (by split <;> omega)).symm))
    · refine li_const hx hb dX6_isUp_20 ?_
      refine lv_goto (tgt := 25) hx hb dX6_isUp_21 (by decide) ?_
      exact li_zret () hx hb hr hlocks hK hP hD hS (by decide) dX6_isUp_25 hQ rfl (congrArg iI (by unfold tnA; first | exact (bz_t (by split <;> omega)).symm | exact (bz_f (by split <;> omega)).symm))

set_option maxRecDepth 100000 in
set_option maxHeartbeats 4000000 in
theorem c_X6_isOpenGate {l : Launch} {D : va_G} {cI cZ cJ : ClassId} (n : Int) (L : Int) (a : Int) (rn : Int) (sp : Int) (cnt : Int) (th : Int) (w : Wt) (op : Int → Int) (tn : Int → Int) (pl : Int → Int) (en : Int) (kd : Int → Int) (nb : Int → Int) (as : Int → Int) (ln : Int → Int) (dr : Int → Int) (M0 M1 M2 M3 M4 : Nat) (g : Int) (hn : 1 ≤ n ∧ n ≤ 6) (hL : 5 ≤ L ∧ L ≤ 40) (ha : 1 ≤ a ∧ a ≤ 50) (hop : opB op) (hoz : ∀ g, n < g → op g = 0) (i_g : -2147483648 ≤ g ∧ g < 2147483648) : Di l yX6_isOpenGate wsX6_isOpenGate 3 [.ref M0, .int (iI g)] D (ty3 cI cZ cJ) (cMd cI n L a rn sp cnt th (rowF w op tn pl en kd nb) as ln dr M0 M1 M2 M3 M4) (bz (isO op g = true)) (cMd cI n L a rn sp cnt th (rowF w op tn pl en kd nb) as ln dr M0 M1 M2 M3 M4) := by
  refine ct_i (plainFor_of_name (by decide)) rfl (Nat.le_of_ble_eq_true rfl) ?_
  intro p e s mI args below meth c_0 ls A hx hb hr hml hts hown hlocks hin hA hP hK hD hNW hS hl Q hQ
  have hown : s.vm.findClass RX6 = some mI.cls := hown
  have hl : lv_has ls 2 [(0, .ref M0), (1, .int (iI g))] := hl
  have hin_X6 : ∀ w ∈ wsX60, w ∈ wsX6_isOpenGate := by decide +kernel
  have hf_9 := hts (.fieldLink RX6 9 "LockStaircaseModel" "row" "[I") (by decide +kernel)
  have hz := hoz g
  have ho := hop g
  refine lv_aload_n hx hb dX6_isOpenGate_0 rfl (lv_at hl 0 rfl) ?_
  refine lv_iload_n hx hb dX6_isOpenGate_1 rfl (lv_at hl 1 rfl) ?_
  refine cl_i0 (isC := [0, 1, 2, 3, 4]) (isR := []) (isN := [0, 1, 2, 3, 4]) (wr := []) (wn := cMd cI n L a rn sp cnt th (rowF w op tn pl en kd nb) as ln dr M0 M1 M2 M3 M4) (As := [.int (iI g)]) (rest := []) (r := bz (0 ≤ g ∧ g ≤ n)) (ci := 6) (q0 := 0) ⟨hx, hb, hml, hown, hts⟩ (c_X6_isGate n L a rn sp cnt th w op tn pl en kd nb as ln dr M0 M1 M2 M3 M4 g (by first | assumption | omega) (by first | assumption | omega) (by first | assumption | omega) (by first | assumption | omega)) (cwV 1 hts gX6_isOpenGate_X6_isGate rfl rfl rfl (by decide +kernel) ⟨Nat.le_of_ble_eq_true rfl, Nat.le_of_ble_eq_true rfl⟩) hK hNW hP hD hS hA rfl rfl rfl rfl (by decide) rfl rfl rfl rfl rfl rfl hl.1 rfl (Nat.le_of_ble_eq_true rfl) dX6_isOpenGate_2 ⟨Nat.zero_le _, Nat.zero_le _⟩ (fun H locs hP hD hS => ?_)
  refine li_ifb_eq (tgt := 25) hx hb dX6_isOpenGate_5 (by decide) (fun c_5 => ?_) (fun c_5 => ?_)
  · refine li_const hx hb dX6_isOpenGate_25 ?_
    exact li_zret () hx hb hr hlocks hK hP hD hS (by decide) dX6_isOpenGate_26 hQ rfl (congrArg iI (by first | exact (bz_t (isO_iff.mpr (by omega))).symm | exact (bz_f (fun h => by have h9 := isO_iff.mp h; omega)).symm))
  · refine lv_aload_n hx hb dX6_isOpenGate_8 rfl (lv_at hl 0 rfl) ?_
    refine li_get (ci := 6) (v := .ref M1) (C := RX6) (T := TX6) (N := 11) (q0 := 0) (k := 5) hx hb hts hin_X6 hown hK hP rfl rfl (by decide) hf_9 rfl rfl dX6_isOpenGate_9 ?_
    refine li_bipush hx hb dX6_isOpenGate_12 (by decide) ?_
    refine lv_iload_n hx hb dX6_isOpenGate_14 rfl (lv_at hl 1 rfl) ?_
    refine li_add hx hb dX6_isOpenGate_15 ?_
    refine li_iald (q0 := 1) (t0 := 0) (g := (rowF w op tn pl en kd nb)) hx hb hK hP rfl rfl (by omega) (by omega) (ib_i (by omega) (by omega)) dX6_isOpenGate_16 ?_
    refine li_top (b := op g) (rd_o (c := g) (by omega) (by omega) (by omega)) ?_
    refine li_const hx hb dX6_isOpenGate_17 ?_
    refine li_icmp_ne (tgt := 25) hx hb dX6_isOpenGate_18 (by decide) (ib_i (by omega) (by omega)) (by decide) (fun c_18 => ?_) (fun c_18 => ?_)
    · refine li_const hx hb dX6_isOpenGate_25 ?_
      exact li_zret () hx hb hr hlocks hK hP hD hS (by decide) dX6_isOpenGate_26 hQ rfl (congrArg iI (by first | exact (bz_t (isO_iff.mpr (by omega))).symm | exact (bz_f (fun h => by have h9 := isO_iff.mp h; omega)).symm))
    · refine li_const hx hb dX6_isOpenGate_21 ?_
      refine lv_goto (tgt := 26) hx hb dX6_isOpenGate_22 (by decide) ?_
      exact li_zret () hx hb hr hlocks hK hP hD hS (by decide) dX6_isOpenGate_26 hQ rfl (congrArg iI (by first | exact (bz_t (isO_iff.mpr (by omega))).symm | exact (bz_f (fun h => by have h9 := isO_iff.mp h; omega)).symm))

set_option maxRecDepth 100000 in
set_option maxHeartbeats 4000000 in
theorem c_X6_obstacleToOpen {l : Launch} {D : va_G} {cI cZ cJ : ClassId} (n : Int) (L : Int) (a : Int) (rn : Int) (sp : Int) (cnt : Int) (th : Int) (w : Wt) (op : Int → Int) (tn : Int → Int) (pl : Int → Int) (en : Int) (kd : Int → Int) (nb : Int → Int) (as : Int → Int) (ln : Int → Int) (dr : Int → Int) (M0 M1 M2 M3 M4 : Nat) (g : Int) (hn : 1 ≤ n ∧ n ≤ 6) (hL : 5 ≤ L ∧ L ≤ 40) (ha : 1 ≤ a ∧ a ≤ 50) (hw : WI n L a w) (hop : opB op) (hoz : ∀ g, n < g → op g = 0) (htn : tnB tn) (htz : ∀ g, n < g → tn g = 0) (hg : 0 ≤ g ∧ g ≤ n) : Di l yX6_obstacleToOpen wsX6_obstacleToOpen 5 [.ref M0, .int (iI g)] D (ty3 cI cZ cJ) (cMd cI n L a rn sp cnt th (rowF w op tn pl en kd nb) as ln dr M0 M1 M2 M3 M4) (opO n L a w op tn g) (cMd cI n L a rn sp cnt th (rowF w op tn pl en kd nb) as ln dr M0 M1 M2 M3 M4) := by
  refine ct_i (plainFor_of_name (by decide)) rfl (Nat.le_of_ble_eq_true rfl) ?_
  intro p e s mI args below meth c_0 ls A hx hb hr hml hts hown hlocks hin hA hP hK hD hNW hS hl Q hQ
  have hown : s.vm.findClass RX6 = some mI.cls := hown
  have hl : lv_has ls 2 [(0, .ref M0), (1, .int (iI g))] := hl
  refine lv_aload_n hx hb dX6_obstacleToOpen_0 rfl (lv_at hl 0 rfl) ?_
  refine lv_iload_n hx hb dX6_obstacleToOpen_1 rfl (lv_at hl 1 rfl) ?_
  refine cl_i0 (isC := [0, 1, 2, 3, 4]) (isR := []) (isN := [0, 1, 2, 3, 4]) (wr := []) (wn := cMd cI n L a rn sp cnt th (rowF w op tn pl en kd nb) as ln dr M0 M1 M2 M3 M4) (As := [.int (iI g)]) (rest := []) (r := bz (isO op g = true)) (ci := 6) (q0 := 0) ⟨hx, hb, hml, hown, hts⟩ (c_X6_isOpenGate n L a rn sp cnt th w op tn pl en kd nb as ln dr M0 M1 M2 M3 M4 g (by first | assumption | omega) (by first | assumption | omega) (by first | assumption | omega) (by first | assumption | omega) (by first | assumption | omega) (by first | assumption | omega)) (cwV 1 hts gX6_obstacleToOpen_X6_isOpenGate rfl rfl rfl (by decide +kernel) ⟨Nat.le_of_ble_eq_true rfl, Nat.le_of_ble_eq_true rfl⟩) hK hNW hP hD hS hA rfl rfl rfl rfl (by decide) rfl rfl rfl rfl rfl rfl hl.1 rfl (Nat.le_of_ble_eq_true rfl) dX6_obstacleToOpen_2 ⟨Nat.zero_le _, Nat.zero_le _⟩ (fun H locs hP hD hS => ?_)
  refine li_ifb_eq (tgt := 10) hx hb dX6_obstacleToOpen_5 (by decide) (fun c_5 => ?_) (fun c_5 => ?_)
  · refine lv_aload_n hx hb dX6_obstacleToOpen_10 rfl (lv_at hl 0 rfl) ?_
    refine lv_iload_n hx hb dX6_obstacleToOpen_11 rfl (lv_at hl 1 rfl) ?_
    refine cl_i0 (isC := [0, 1, 2, 3, 4]) (isR := []) (isN := [0, 1, 2, 3, 4]) (wr := []) (wn := cMd cI n L a rn sp cnt th (rowF w op tn pl en kd nb) as ln dr M0 M1 M2 M3 M4) (As := [.int (iI g)]) (rest := []) (r := bz (0 < tnA tn g)) (ci := 6) (q0 := 0) ⟨hx, hb, hml, hown, hts⟩ (c_X6_isUp n L a rn sp cnt th w op tn pl en kd nb as ln dr M0 M1 M2 M3 M4 g (by first | assumption | omega) (by first | assumption | omega) (by first | assumption | omega) (by first | assumption | omega) (by first | assumption | omega) (by first | assumption | omega)) (cwV 1 hts gX6_obstacleToOpen_X6_isUp rfl rfl rfl (by decide +kernel) ⟨Nat.le_of_ble_eq_true rfl, Nat.le_of_ble_eq_true rfl⟩) hK hNW hP hD hS hA rfl rfl rfl rfl (by decide) rfl rfl rfl rfl rfl rfl hl.1 rfl (Nat.le_of_ble_eq_true rfl) dX6_obstacleToOpen_12 ⟨Nat.zero_le _, Nat.zero_le _⟩ (fun H locs hP hD hS => ?_)
    refine li_ifb_ne (tgt := 38) hx hb dX6_obstacleToOpen_15 (by decide) (fun c_15 => ?_) (fun c_15 => ?_)
    · refine li_const hx hb dX6_obstacleToOpen_38 ?_
      exact li_iret () hx hb hr hlocks hK hP hD hS dX6_obstacleToOpen_39 hQ rfl (congrArg iI (by unfold opO; first | (rw [if_pos (by assumption)]; done) | (rw [if_neg (by assumption)]; first | (rw [if_pos (by unfold beS; simp only [Bool.or_eq_true, decide_eq_true_eq]; omega)]; done) | (rw [if_neg (by unfold beS; simp only [Bool.or_eq_true, decide_eq_true_eq]; omega)]; first | (rw [if_pos (by assumption)]; done) | (rw [if_neg (by assumption)]; done)))))
    · refine lv_aload_n hx hb dX6_obstacleToOpen_18 rfl (lv_at hl 0 rfl) ?_
      refine lv_iload_n hx hb dX6_obstacleToOpen_19 rfl (lv_at hl 1 rfl) ?_
      refine li_const hx hb dX6_obstacleToOpen_20 ?_
      refine li_sub hx hb dX6_obstacleToOpen_21 ?_
      refine cl_i0 (isC := [0, 1, 2, 3, 4]) (isR := []) (isN := [0, 1, 2, 3, 4]) (wr := []) (wn := cMd cI n L a rn sp cnt th (rowF w op tn pl en kd nb) as ln dr M0 M1 M2 M3 M4) (As := [.int (iI (g - 1))]) (rest := []) (r := bz (0 < tnA tn (g - 1))) (ci := 6) (q0 := 0) ⟨hx, hb, hml, hown, hts⟩ (c_X6_isUp n L a rn sp cnt th w op tn pl en kd nb as ln dr M0 M1 M2 M3 M4 (g - 1) (by first | assumption | omega) (by first | assumption | omega) (by first | assumption | omega) (by first | assumption | omega) (by first | assumption | omega) (by first | assumption | omega)) (cwV 1 hts gX6_obstacleToOpen_X6_isUp rfl rfl rfl (by decide +kernel) ⟨Nat.le_of_ble_eq_true rfl, Nat.le_of_ble_eq_true rfl⟩) hK hNW hP hD hS hA rfl rfl rfl rfl (by decide) rfl rfl rfl rfl rfl rfl hl.1 rfl (Nat.le_of_ble_eq_true rfl) dX6_obstacleToOpen_22 ⟨Nat.zero_le _, Nat.zero_le _⟩ (fun H locs hP hD hS => ?_)
      refine li_ifb_ne (tgt := 38) hx hb dX6_obstacleToOpen_25 (by decide) (fun c_25 => ?_) (fun c_25 => ?_)
      · refine li_const hx hb dX6_obstacleToOpen_38 ?_
        exact li_iret () hx hb hr hlocks hK hP hD hS dX6_obstacleToOpen_39 hQ rfl (congrArg iI (by unfold opO; first | (rw [if_pos (by assumption)]; done) | (rw [if_neg (by assumption)]; first | (rw [if_pos (by unfold beS; simp only [Bool.or_eq_true, decide_eq_true_eq]; omega)]; done) | (rw [if_neg (by unfold beS; simp only [Bool.or_eq_true, decide_eq_true_eq]; omega)]; first | (rw [if_pos (by assumption)]; done) | (rw [if_neg (by assumption)]; done)))))
      · refine lv_aload_n hx hb dX6_obstacleToOpen_28 rfl (lv_at hl 0 rfl) ?_
        refine lv_iload_n hx hb dX6_obstacleToOpen_29 rfl (lv_at hl 1 rfl) ?_
        refine li_const hx hb dX6_obstacleToOpen_30 ?_
        refine li_add hx hb dX6_obstacleToOpen_31 ?_
        refine cl_i0 (isC := [0, 1, 2, 3, 4]) (isR := []) (isN := [0, 1, 2, 3, 4]) (wr := []) (wn := cMd cI n L a rn sp cnt th (rowF w op tn pl en kd nb) as ln dr M0 M1 M2 M3 M4) (As := [.int (iI (g + 1))]) (rest := []) (r := bz (0 < tnA tn (g + 1))) (ci := 6) (q0 := 0) ⟨hx, hb, hml, hown, hts⟩ (c_X6_isUp n L a rn sp cnt th w op tn pl en kd nb as ln dr M0 M1 M2 M3 M4 (g + 1) (by first | assumption | omega) (by first | assumption | omega) (by first | assumption | omega) (by first | assumption | omega) (by first | assumption | omega) (by first | assumption | omega)) (cwV 1 hts gX6_obstacleToOpen_X6_isUp rfl rfl rfl (by decide +kernel) ⟨Nat.le_of_ble_eq_true rfl, Nat.le_of_ble_eq_true rfl⟩) hK hNW hP hD hS hA rfl rfl rfl rfl (by decide) rfl rfl rfl rfl rfl rfl hl.1 rfl (Nat.le_of_ble_eq_true rfl) dX6_obstacleToOpen_32 ⟨Nat.zero_le _, Nat.zero_le _⟩ (fun H locs hP hD hS => ?_)
        refine li_ifb_eq (tgt := 40) hx hb dX6_obstacleToOpen_35 (by decide) (fun c_35 => ?_) (fun c_35 => ?_)
        · refine lv_aload_n hx hb dX6_obstacleToOpen_40 rfl (lv_at hl 0 rfl) ?_
          refine lv_iload_n hx hb dX6_obstacleToOpen_41 rfl (lv_at hl 1 rfl) ?_
          refine cl_i0 (isC := [0, 1, 2, 3, 4]) (isR := []) (isN := [0, 1, 2, 3, 4]) (wr := []) (wn := cMd cI n L a rn sp cnt th (rowF w op tn pl en kd nb) as ln dr M0 M1 M2 M3 M4) (As := [.int (iI g)]) (rest := []) (r := hdA n L a w g) (ci := 6) (q0 := 0) ⟨hx, hb, hml, hown, hts⟩ (c_X6_head n L a rn sp cnt th w op tn pl en kd nb as ln dr M0 M1 M2 M3 M4 g (by first | assumption | omega) (by first | assumption | omega) (by first | assumption | omega) (by first | assumption | omega) (by first | assumption | omega)) (cwV 1 hts gX6_obstacleToOpen_X6_head rfl rfl rfl (by decide +kernel) ⟨Nat.le_of_ble_eq_true rfl, Nat.le_of_ble_eq_true rfl⟩) hK hNW hP hD hS hA rfl rfl rfl rfl (by decide) rfl rfl rfl rfl rfl rfl hl.1 rfl (Nat.le_of_ble_eq_true rfl) dX6_obstacleToOpen_42 ⟨Nat.zero_le _, Nat.zero_le _⟩ (fun H locs hP hD hS => ?_)
          have b1 := lvA_b hn hL ha hw g (by omega)
          have b2 := lvA_b hn hL ha hw (g - 1) (by omega)
          have eh : hdA n L a w g = lvA n L a w g - lvA n L a w (g - 1) := rfl
          refine li_if_eq (tgt := 52) hx hb dX6_obstacleToOpen_45 (by decide) (ib_i (by omega) (by omega)) (fun c_45 => ?_) (fun c_45 => ?_)
          · refine li_const hx hb dX6_obstacleToOpen_52 ?_
            exact li_iret () hx hb hr hlocks hK hP hD hS dX6_obstacleToOpen_53 hQ rfl (congrArg iI (by unfold opO; first | (rw [if_pos (by assumption)]; done) | (rw [if_neg (by assumption)]; first | (rw [if_pos (by unfold beS; simp only [Bool.or_eq_true, decide_eq_true_eq]; omega)]; done) | (rw [if_neg (by unfold beS; simp only [Bool.or_eq_true, decide_eq_true_eq]; omega)]; first | (rw [if_pos (by assumption)]; done) | (rw [if_neg (by assumption)]; done)))))
          · refine li_const hx hb dX6_obstacleToOpen_48 ?_
            refine lv_goto (tgt := 53) hx hb dX6_obstacleToOpen_49 (by decide) ?_
            exact li_iret () hx hb hr hlocks hK hP hD hS dX6_obstacleToOpen_53 hQ rfl (congrArg iI (by unfold opO; first | (rw [if_pos (by assumption)]; done) | (rw [if_neg (by assumption)]; first | (rw [if_pos (by unfold beS; simp only [Bool.or_eq_true, decide_eq_true_eq]; omega)]; done) | (rw [if_neg (by unfold beS; simp only [Bool.or_eq_true, decide_eq_true_eq]; omega)]; first | (rw [if_pos (by assumption)]; done) | (rw [if_neg (by assumption)]; done)))))
        · refine li_const hx hb dX6_obstacleToOpen_38 ?_
          exact li_iret () hx hb hr hlocks hK hP hD hS dX6_obstacleToOpen_39 hQ rfl (congrArg iI (by unfold opO; first | (rw [if_pos (by assumption)]; done) | (rw [if_neg (by assumption)]; first | (rw [if_pos (by unfold beS; simp only [Bool.or_eq_true, decide_eq_true_eq]; omega)]; done) | (rw [if_neg (by unfold beS; simp only [Bool.or_eq_true, decide_eq_true_eq]; omega)]; first | (rw [if_pos (by assumption)]; done) | (rw [if_neg (by assumption)]; done)))))
  · refine li_const hx hb dX6_obstacleToOpen_8 ?_
    exact li_iret () hx hb hr hlocks hK hP hD hS dX6_obstacleToOpen_9 hQ rfl (congrArg iI (by unfold opO; first | (rw [if_pos (by assumption)]; done) | (rw [if_neg (by assumption)]; first | (rw [if_pos (by unfold beS; simp only [Bool.or_eq_true, decide_eq_true_eq]; omega)]; done) | (rw [if_neg (by unfold beS; simp only [Bool.or_eq_true, decide_eq_true_eq]; omega)]; first | (rw [if_pos (by assumption)]; done) | (rw [if_neg (by assumption)]; done)))))
