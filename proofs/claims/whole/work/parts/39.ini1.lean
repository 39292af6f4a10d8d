set_option maxRecDepth 100000 in
set_option maxHeartbeats 4000000 in
theorem c_X5_within {l : Launch} {D : va_G} {cI cZ cJ : ClassId} (x : Int) (lo : Int) (hi : Int) (i_x : -2147483648 ≤ x ∧ x < 2147483648) (i_lo : -2147483648 ≤ lo ∧ lo < 2147483648) (i_hi : -2147483648 ≤ hi ∧ hi < 2147483648) : Di l yX5_within wsX5_within 1 [.int (iI x), .int (iI lo), .int (iI hi)] D (ty3 cI cZ cJ) ([]) (wiA x lo hi) ([]) := by
  refine ct_i (plainFor_of_name (by decide)) rfl (Nat.le_of_ble_eq_true rfl) ?_
  intro p e s mI args below meth c_0 ls A hx hb hr hml hts hown hlocks hin hA hP hK hD hNW hS hl Q hQ
  have hown : s.vm.findClass RX5 = some mI.cls := hown
  have hl : lv_has ls 3 [(0, .int (iI x)), (1, .int (iI lo)), (2, .int (iI hi))] := hl
  have hk_max := hts (.code Lib.Math.max.name Lib.Math.max.code 2 (some .int)) (by decide +kernel)
  have hk_min := hts (.code Lib.Math.min.name Lib.Math.min.code 2 (some .int)) (by decide +kernel)
  have hi_Math := hts (.initialized "java/lang/Math") (by decide +kernel)
  have hm_207 := hts (.methodLink RX5 207 Lib.Math.min.name) (by decide +kernel)
  have hm_213 := hts (.methodLink RX5 213 Lib.Math.max.name) (by decide +kernel)
  have hs_max := hts (.static Lib.Math.max.name) (by decide +kernel)
  have hs_min := hts (.static Lib.Math.min.name) (by decide +kernel)
  have hx2 : -2147483648 ≤ (if x < hi then x else hi) ∧ (if x < hi then x else hi) < 2147483648 := by split <;> omega
  refine lv_iload_n hx hb dX5_within_0 rfl (lv_at hl 1 rfl) ?_
  refine lv_iload_n hx hb dX5_within_1 rfl (lv_at hl 2 rfl) ?_
  refine lv_iload_n hx hb dX5_within_2 rfl (lv_at hl 0 rfl) ?_
  refine li_min hx hb (hml.trans hl.1.symm) hown hm_207 hs_min hi_Math hk_min (Nat.le_of_ble_eq_true rfl) (Nat.le_of_ble_eq_true rfl) (Nat.zero_le _) (Nat.zero_le _) (ib_i (by omega) (by omega)) (ib_i (by omega) (by omega)) dX5_within_3 ?_
  refine li_max hx hb (hml.trans hl.1.symm) hown hm_213 hs_max hi_Math hk_max (Nat.le_of_ble_eq_true rfl) (Nat.le_of_ble_eq_true rfl) (Nat.zero_le _) (Nat.zero_le _) (ib_i (by omega) (by omega)) (ib_i (by omega) (by omega)) dX5_within_6 ?_
  exact li_iret () hx hb hr hlocks hK hP hD hS dX5_within_9 hQ rfl (congrArg iI (rfl))

set_option maxRecDepth 100000 in
set_option maxHeartbeats 1000000 in
theorem c_X1_init {l : Launch} {D : va_G} {cI cZ cJ : ClassId} (G0 : Nat)  : CV (S := Nat → Nat) l yX1_init wsX1_init 1 2 14 [.ref G0] D (ty3 cI cZ cJ) ([(G0, .inr (1, [.null, .null]))]) (fun _ => True) (fun u => cGa cI cZ (fun _ => 0) (fun _ => 0) G0 (u 0) (u 1)) := by
  refine ct_v (plainFor_of_name (by decide)) rfl (Nat.le_of_ble_eq_true rfl) ?_
  intro p e s mI args below meth c_0 ls A hx hb hr hml hts hown hlocks hin hA hP hK hD hNW hS hl Q hQ
  have hown : s.vm.findClass RX1 = some mI.cls := hown
  have hl : lv_has ls 1 [(0, .ref G0)] := hl
  have hin_X1 : ∀ w ∈ wsX10, w ∈ wsX1_init := by decide +kernel
  have har_boolean := hts (.arrayClass .boolean) (by decide +kernel)
  have har_int := hts (.arrayClass .int) (by decide +kernel)
  have hoi3 := hts (.code objectInit ⟨#[0xb1]⟩ 1 none) (by decide +kernel)
  have hf_15 := hts (.fieldLink RX1 15 "LockStaircase$Gates" "turns" "[I") (by decide +kernel)
  have hf_9 := hts (.fieldLink RX1 9 "LockStaircase$Gates" "open" "[Z") (by decide +kernel)
  have hoi2 := hts (.instanceMethod objectInit) (by decide +kernel)
  have hoi1 := hts (.methodLink RX1 3 objectInit) (by decide +kernel)
  refine lv_aload_n hx hb dX1_init_0 rfl (lv_at hl 0 rfl) ?_
  refine W.objInit hx hb hown hoi1 hoi2 hoi3 rfl (by rw [hml]; exact hl.1) rfl dX1_init_1 (Nat.le_of_ble_eq_true rfl) (Nat.le_of_ble_eq_true rfl) ?_
  refine lv_aload_n hx hb dX1_init_4 rfl (lv_at hl 0 rfl) ?_
  refine li_bipush hx hb dX1_init_5 (by decide) ?_
  refine li_newa (atype := .boolean) (ty := .boolean) 1 (a0 := (7, .inl (aZ fun _ => 0))) (N' := 7) hx hb har_boolean rfl (fun _ h => nomatch h) rfl hK hP hD hS hA (fun cA => z_cell cA _) (by decide +kernel) (by decide +kernel) (show 7 ≤ 536870912 by omega) (Nat.le_of_ble_eq_true rfl) (Nat.le_of_ble_eq_true rfl) dX1_init_7 (fun q7 H hP hD hS => ?_)
  refine li_putF (ci := 1) (v := .ref q7) (ty := (.array .boolean)) (C := RX1) (T := TX1) (N := 2) (q0 := 0) (k := 0) (w2 := [(G0, .inr (1, [.ref q7, .null]))] ++ [(q7, .inl (cZ, 7, .inl (aZ (fun _ => 0))))]) hx hb hts hin_X1 tyX1_ok nmX1 hown hK hP hD hS rfl rfl (by decide) hf_9 rfl rfl hin rfl (by decide +kernel) rfl rfl (Nat.le_of_ble_eq_true rfl) dX1_init_9 rfl (fun H locs hP hD hS => ?_)
  refine lv_aload_n hx hb dX1_init_12 rfl (lv_at hl 0 rfl) ?_
  refine li_bipush hx hb dX1_init_13 (by decide) ?_
  refine li_newa (atype := .int) (ty := .int) 0 (a0 := (7, .inl (aZ fun _ => 0))) (N' := 7) hx hb har_int rfl (fun _ h => nomatch h) rfl hK hP hD hS hA (fun cA => z_cell cA _) (by decide +kernel) (by decide +kernel) (show 28 ≤ 536870912 by omega) (Nat.le_of_ble_eq_true rfl) (Nat.le_of_ble_eq_true rfl) dX1_init_15 (fun q15 H hP hD hS => ?_)
  refine li_putF (ci := 1) (v := .ref q15) (ty := (.array .int)) (C := RX1) (T := TX1) (N := 2) (q0 := 0) (k := 1) (w2 := [(G0, .inr (1, [.ref q7, .ref q15]))] ++ [(q7, .inl (cZ, 7, .inl (aZ (fun _ => 0))))] ++ [(q15, .inl (cI, 7, .inl (aZ (fun _ => 0))))]) hx hb hts hin_X1 tyX1_ok nmX1 hown hK hP hD hS rfl rfl (by decide) hf_15 rfl rfl hin rfl (by decide +kernel) rfl rfl (Nat.le_of_ble_eq_true rfl) dX1_init_17 rfl (fun H locs hP hD hS => ?_)
  refine li_wide (k := 2) (n := 14) (Nat.le_of_ble_eq_true rfl) (Nat.le_of_ble_eq_true rfl) ?_
  exact li_vret (fun i => [q7, q15].getD i 0) hx hb hr hlocks hK hP hD hS dX1_init_20 hQ rfl trivial

set_option maxRecDepth 100000 in
set_option maxHeartbeats 1000000 in
theorem c_X0_init {l : Launch} {D : va_G} {cI cZ cJ : ClassId} (B0 : Nat)  : CV (S := Nat → Nat) l yX0_init wsX0_init 1 3 30 [.ref B0] D (ty3 cI cZ cJ) ([(B0, .inr (0, [.null, .null, .null, .int (iI 0)]))]) (fun _ => True) (fun u => cFl cI 0 (fun _ => 0) (fun _ => 0) (fun _ => 0) B0 (u 0) (u 1) (u 2)) := by
  refine ct_v (plainFor_of_name (by decide)) rfl (Nat.le_of_ble_eq_true rfl) ?_
  intro p e s mI args below meth c_0 ls A hx hb hr hml hts hown hlocks hin hA hP hK hD hNW hS hl Q hQ
  have hown : s.vm.findClass RX0 = some mI.cls := hown
  have hl : lv_has ls 1 [(0, .ref B0)] := hl
  have hin_X0 : ∀ w ∈ wsX00, w ∈ wsX0_init := by decide +kernel
  have har_int := hts (.arrayClass .int) (by decide +kernel)
  have hoi3 := hts (.code objectInit ⟨#[0xb1]⟩ 1 none) (by decide +kernel)
  have hf_15 := hts (.fieldLink RX0 15 "LockStaircase$Fleet" "draughts" "[I") (by decide +kernel)
  have hf_18 := hts (.fieldLink RX0 18 "LockStaircase$Fleet" "places" "[I") (by decide +kernel)
  have hf_9 := hts (.fieldLink RX0 9 "LockStaircase$Fleet" "lengths" "[I") (by decide +kernel)
  have hoi2 := hts (.instanceMethod objectInit) (by decide +kernel)
  have hoi1 := hts (.methodLink RX0 3 objectInit) (by decide +kernel)
  refine lv_aload_n hx hb dX0_init_0 rfl (lv_at hl 0 rfl) ?_
  refine W.objInit hx hb hown hoi1 hoi2 hoi3 rfl (by rw [hml]; exact hl.1) rfl dX0_init_1 (Nat.le_of_ble_eq_true rfl) (Nat.le_of_ble_eq_true rfl) ?_
  refine lv_aload_n hx hb dX0_init_4 rfl (lv_at hl 0 rfl) ?_
  refine li_bipush hx hb dX0_init_5 (by decide) ?_
  refine li_newa (atype := .int) (ty := .int) 0 (a0 := (10, .inl (aZ fun _ => 0))) (N' := 10) hx hb har_int rfl (fun _ h => nomatch h) rfl hK hP hD hS hA (fun cA => z_cell cA _) (by decide +kernel) (by decide +kernel) (show 40 ≤ 536870912 by omega) (Nat.le_of_ble_eq_true rfl) (Nat.le_of_ble_eq_true rfl) dX0_init_7 (fun q7 H hP hD hS => ?_)
  refine li_putF (ci := 0) (v := .ref q7) (ty := (.array .int)) (C := RX0) (T := TX0) (N := 4) (q0 := 0) (k := 0) (w2 := [(B0, .inr (0, [.ref q7, .null, .null, .int (iI 0)]))] ++ [(q7, .inl (cI, 10, .inl (aZ (fun _ => 0))))]) hx hb hts hin_X0 tyX0_ok nmX0 hown hK hP hD hS rfl rfl (by decide) hf_9 rfl rfl hin rfl (by decide +kernel) rfl rfl (Nat.le_of_ble_eq_true rfl) dX0_init_9 rfl (fun H locs hP hD hS => ?_)
  refine lv_aload_n hx hb dX0_init_12 rfl (lv_at hl 0 rfl) ?_
  refine li_bipush hx hb dX0_init_13 (by decide) ?_
  refine li_newa (atype := .int) (ty := .int) 0 (a0 := (10, .inl (aZ fun _ => 0))) (N' := 10) hx hb har_int rfl (fun _ h => nomatch h) rfl hK hP hD hS hA (fun cA => z_cell cA _) (by decide +kernel) (by decide +kernel) (show 40 ≤ 536870912 by omega) (Nat.le_of_ble_eq_true rfl) (Nat.le_of_ble_eq_true rfl) dX0_init_15 (fun q15 H hP hD hS => ?_)
  refine li_putF (ci := 0) (v := .ref q15) (ty := (.array .int)) (C := RX0) (T := TX0) (N := 4) (q0 := 0) (k := 1) (w2 := [(B0, .inr (0, [.ref q7, .ref q15, .null, .int (iI 0)]))] ++ [(q7, .inl (cI, 10, .inl (aZ (fun _ => 0))))] ++ [(q15, .inl (cI, 10, .inl (aZ (fun _ => 0))))]) hx hb hts hin_X0 tyX0_ok nmX0 hown hK hP hD hS rfl rfl (by decide) hf_15 rfl rfl hin rfl (by decide +kernel) rfl rfl (Nat.le_of_ble_eq_true rfl) dX0_init_17 rfl (fun H locs hP hD hS => ?_)
  refine lv_aload_n hx hb dX0_init_20 rfl (lv_at hl 0 rfl) ?_
  refine li_bipush hx hb dX0_init_21 (by decide) ?_
  refine li_newa (atype := .int) (ty := .int) 0 (a0 := (10, .inl (aZ fun _ => 0))) (N' := 10) hx hb har_int rfl (fun _ h => nomatch h) rfl hK hP hD hS hA (fun cA => z_cell cA _) (by decide +kernel) (by decide +kernel) (show 40 ≤ 536870912 by omega) (Nat.le_of_ble_eq_true rfl) (Nat.le_of_ble_eq_true rfl) dX0_init_23 (fun q23 H hP hD hS => ?_)
  refine li_putF (ci := 0) (v := .ref q23) (ty := (.array .int)) (C := RX0) (T := TX0) (N := 4) (q0 := 0) (k := 2) (w2 := [(B0, .inr (0, [.ref q7, .ref q15, .ref q23, .int (iI 0)]))] ++ [(q7, .inl (cI, 10, .inl (aZ (fun _ => 0))))] ++ [(q15, .inl (cI, 10, .inl (aZ (fun _ => 0))))] ++ [(q23, .inl (cI, 10, .inl (aZ (fun _ => 0))))]) hx hb hts hin_X0 tyX0_ok nmX0 hown hK hP hD hS rfl rfl (by decide) hf_18 rfl rfl hin rfl (by decide +kernel) rfl rfl (Nat.le_of_ble_eq_true rfl) dX0_init_25 rfl (fun H locs hP hD hS => ?_)
  refine li_wide (k := 3) (n := 30) (Nat.le_of_ble_eq_true rfl) (Nat.le_of_ble_eq_true rfl) ?_
  exact li_vret (fun i => [q7, q15, q23].getD i 0) hx hb hr hlocks hK hP hD hS dX0_init_28 hQ rfl trivial

set_option maxRecDepth 100000 in
set_option maxHeartbeats 1000000 in
theorem c_X3_init {l : Launch} {D : va_G} {cI cZ cJ : ClassId} (P0 : Nat)  : CV (S := Nat → Nat) l yX3_init wsX3_init 1 0 0 [.ref P0] D (ty3 cI cZ cJ) ([(P0, .inr (3, [.int (iI 0), .int (iI 0), .int (iI 0), .int (iI 0)]))]) (fun _ => True) (fun u => cRp  (-1, -1, 0, -1) P0) := by
  refine ct_v (plainFor_of_name (by decide)) rfl (Nat.le_of_ble_eq_true rfl) ?_
  intro p e s mI args below meth c_0 ls A hx hb hr hml hts hown hlocks hin hA hP hK hD hNW hS hl Q hQ
  have hown : s.vm.findClass RX3 = some mI.cls := hown
  have hl : lv_has ls 1 [(0, .ref P0)] := hl
  have hin_X3 : ∀ w ∈ wsX30, w ∈ wsX3_init := by decide +kernel
  have hoi3 := hts (.code objectInit ⟨#[0xb1]⟩ 1 none) (by decide +kernel)
  have hf_15 := hts (.fieldLink RX3 15 "LockStaircase$Report" "lowestChamber" "I") (by decide +kernel)
  have hf_18 := hts (.fieldLink RX3 18 "LockStaircase$Report" "reason" "I") (by decide +kernel)
  have hf_9 := hts (.fieldLink RX3 9 "LockStaircase$Report" "gate" "I") (by decide +kernel)
  have hoi2 := hts (.instanceMethod objectInit) (by decide +kernel)
  have hoi1 := hts (.methodLink RX3 3 objectInit) (by decide +kernel)
  refine lv_aload_n hx hb dX3_init_0 rfl (lv_at hl 0 rfl) ?_
  refine W.objInit hx hb hown hoi1 hoi2 hoi3 rfl (by rw [hml]; exact hl.1) rfl dX3_init_1 (Nat.le_of_ble_eq_true rfl) (Nat.le_of_ble_eq_true rfl) ?_
  refine lv_aload_n hx hb dX3_init_4 rfl (lv_at hl 0 rfl) ?_
  refine li_const hx hb dX3_init_5 ?_
  refine li_put (ci := 3) (v := .int (iI (-1))) (ty := .int) (C := RX3) (T := TX3) (N := 4) (q0 := 0) (k := 0) (w2 := [(P0, .inr (3, [.int (iI (-1)), .int (iI 0), .int (iI 0), .int (iI 0)]))]) hx hb hts hin_X3 tyX3_ok nmX3 hown hK hP hD hS rfl rfl (by decide) hf_9 rfl rfl (by decide +kernel) rfl rfl (Nat.le_of_ble_eq_true rfl) dX3_init_6 rfl (fun H locs hP hD hS => ?_)
  refine lv_aload_n hx hb dX3_init_9 rfl (lv_at hl 0 rfl) ?_
  refine li_const hx hb dX3_init_10 ?_
  refine li_put (ci := 3) (v := .int (iI (-1))) (ty := .int) (C := RX3) (T := TX3) (N := 4) (q0 := 0) (k := 1) (w2 := [(P0, .inr (3, [.int (iI (-1)), .int (iI (-1)), .int (iI 0), .int (iI 0)]))]) hx hb hts hin_X3 tyX3_ok nmX3 hown hK hP hD hS rfl rfl (by decide) hf_15 rfl rfl (by decide +kernel) rfl rfl (Nat.le_of_ble_eq_true rfl) dX3_init_11 rfl (fun H locs hP hD hS => ?_)
  refine lv_aload_n hx hb dX3_init_14 rfl (lv_at hl 0 rfl) ?_
  refine li_const hx hb dX3_init_15 ?_
  refine li_put (ci := 3) (v := .int (iI (-1))) (ty := .int) (C := RX3) (T := TX3) (N := 4) (q0 := 0) (k := 3) (w2 := [(P0, .inr (3, [.int (iI (-1)), .int (iI (-1)), .int (iI 0), .int (iI (-1))]))]) hx hb hts hin_X3 tyX3_ok nmX3 hown hK hP hD hS rfl rfl (by decide) hf_18 rfl rfl (by decide +kernel) rfl rfl (Nat.le_of_ble_eq_true rfl) dX3_init_16 rfl (fun H locs hP hD hS => ?_)
  refine li_wide (k := 0) (n := 0) (Nat.le_of_ble_eq_true rfl) (Nat.le_of_ble_eq_true rfl) ?_
  exact li_vret (fun i => [].getD i 0) hx hb hr hlocks hK hP hD hS dX3_init_19 hQ rfl trivial

set_option maxRecDepth 100000 in
set_option maxHeartbeats 1000000 in
theorem c_X4_init {l : Launch} {D : va_G} {cI cZ cJ : ClassId} (W0 : Nat) (x : Int) (y : Int) (z : Int) (i_x : -2147483648 ≤ x ∧ x < 2147483648) (i_y : -2147483648 ≤ y ∧ y < 2147483648) (i_z : -2147483648 ≤ z ∧ z < 2147483648) : CV (S := Nat → Nat) l yX4_init wsX4_init 2 1 6 [.ref W0, .int (iI x), .int (iI y), .int (iI z)] D (ty3 cI cZ cJ) ([(W0, .inr (4, [.int (iI 0), .int (iI 0), .null, .int (iI 0), .int (iI 0), .int (iI 0), .int (iI 0), .int (iI 0)]))]) (fun _ => True) (fun u => cWa cI (wiA x 1 6) (wiA y 5 40) (wiA z 1 50) 0 (20 * (wiA z 1 50), 0, 0, fun _ => 0) W0 (u 0)) := by
  refine ct_v (plainFor_of_name (by decide)) rfl (Nat.le_of_ble_eq_true rfl) ?_
  intro p e s mI args below meth c_0 ls A hx hb hr hml hts hown hlocks hin hA hP hK hD hNW hS hl Q hQ
  have hown : s.vm.findClass RX4 = some mI.cls := hown
  have hl : lv_has ls 5 [(0, .ref W0), (1, .int (iI x)), (2, .int (iI y)), (3, .int (iI z))] := hl
  have hin_X4 : ∀ w ∈ wsX40, w ∈ wsX4_init := by decide +kernel
  have har_int := hts (.arrayClass .int) (by decide +kernel)
  have hoi3 := hts (.code objectInit ⟨#[0xb1]⟩ 1 none) (by decide +kernel)
  have hf_13 := hts (.fieldLink RX4 13 "LockStaircase$Water" "lift" "I") (by decide +kernel)
  have hf_19 := hts (.fieldLink RX4 19 "LockStaircase$Water" "area" "I") (by decide +kernel)
  have hf_22 := hts (.fieldLink RX4 22 "LockStaircase$Water" "levels" "[I") (by decide +kernel)
  have hf_26 := hts (.fieldLink RX4 26 "LockStaircase$Water" "bed" "I") (by decide +kernel)
  have hf_29 := hts (.fieldLink RX4 29 "LockStaircase$Water" "pound" "I") (by decide +kernel)
  have hini_X5 := hts (.initialized RX5) (by decide +kernel)
  have hoi2 := hts (.instanceMethod objectInit) (by decide +kernel)
  have hoi1 := hts (.methodLink RX4 3 objectInit) (by decide +kernel)
  have hst_X5_within := hts (.static yX5_within) (by decide +kernel)
  have bn := wiA_b (x := x) (lo := 1) (hi := 6) (by decide)
  have bL := wiA_b (x := y) (lo := 5) (hi := 40) (by decide)
  have ba := wiA_b (x := z) (lo := 1) (hi := 50) (by decide)
  refine lv_aload_n hx hb dX4_init_0 rfl (lv_at hl 0 rfl) ?_
  refine W.objInit hx hb hown hoi1 hoi2 hoi3 rfl (by rw [hml]; exact hl.1) rfl dX4_init_1 (Nat.le_of_ble_eq_true rfl) (Nat.le_of_ble_eq_true rfl) ?_
  refine lv_aload_n hx hb dX4_init_4 rfl (lv_at hl 0 rfl) ?_
  refine lv_iload_n hx hb dX4_init_5 rfl (lv_at hl 2 rfl) ?_
  refine li_const hx hb dX4_init_6 ?_
  refine li_bipush hx hb dX4_init_7 (by decide) ?_
  refine csN_i0 (isC := []) (isR := [0]) (isN := [0]) (wr := [(W0, .inr (4, [.int (iI 0), .int (iI 0), .null, .int (iI 0), .int (iI 0), .int (iI 0), .int (iI 0), .int (iI 0)]))]) (wn := [(W0, .inr (4, [.int (iI 0), .int (iI 0), .null, .int (iI 0), .int (iI 0), .int (iI 0), .int (iI 0), .int (iI 0)]))]) (As := [.int (iI y), .int (iI 5), .int (iI 40)]) (rest := [.ref W0]) (r := wiA y 5 40) ⟨hx, hb, hml, hown, hts⟩ (c_X5_within y 5 40 (by first | assumption | omega) (by first | assumption | omega) (by first | assumption | omega)) ⟨va_cnB (host := "LockStaircase") 3 hts gX4_init_X5_within_n9 rfl rfl rfl (va_Nw.use rfl (hNW _ (by decide +kernel))) hini_X5 (by decide +kernel) ⟨Nat.le_of_ble_eq_true rfl, Nat.le_of_ble_eq_true rfl⟩, hst_X5_within, trivial⟩ hK hNW hP hD hS hA rfl rfl rfl rfl (by decide) rfl rfl rfl hl.1 rfl (Nat.le_of_ble_eq_true rfl) dX4_init_9 ⟨Nat.le_of_ble_eq_true rfl, Nat.le_of_ble_eq_true rfl⟩ (fun H locs hP hD hS => ?_)
  refine li_putF (ci := 4) (v := .int (iI (wiA y 5 40))) (ty := .int) (C := RX4) (T := TX4) (N := 8) (q0 := 0) (k := 0) (w2 := [(W0, .inr (4, [.int (iI (wiA y 5 40)), .int (iI 0), .null, .int (iI 0), .int (iI 0), .int (iI 0), .int (iI 0), .int (iI 0)]))]) hx hb hts hin_X4 tyX4_ok nmX4 hown hK hP hD hS rfl rfl (by decide) hf_13 rfl rfl hin rfl (by decide +kernel) rfl rfl (Nat.le_of_ble_eq_true rfl) dX4_init_12 rfl (fun H locs hP hD hS => ?_)
  refine lv_aload_n hx hb dX4_init_15 rfl (lv_at hl 0 rfl) ?_
  refine lv_iload_n hx hb dX4_init_16 rfl (lv_at hl 3 rfl) ?_
  refine li_const hx hb dX4_init_17 ?_
  refine li_bipush hx hb dX4_init_18 (by decide) ?_
  refine csN_i0 (isC := []) (isR := [0]) (isN := [0]) (wr := [(W0, .inr (4, [.int (iI (wiA y 5 40)), .int (iI 0), .null, .int (iI 0), .int (iI 0), .int (iI 0), .int (iI 0), .int (iI 0)]))]) (wn := [(W0, .inr (4, [.int (iI (wiA y 5 40)), .int (iI 0), .null, .int (iI 0), .int (iI 0), .int (iI 0), .int (iI 0), .int (iI 0)]))]) (As := [.int (iI z), .int (iI 1), .int (iI 50)]) (rest := [.ref W0]) (r := wiA z 1 50) ⟨hx, hb, hml, hown, hts⟩ (c_X5_within z 1 50 (by first | assumption | omega) (by first | assumption | omega) (by first | assumption | omega)) ⟨va_cnB (host := "LockStaircase") 3 hts gX4_init_X5_within_n9 rfl rfl rfl (va_Nw.use rfl (hNW _ (by decide +kernel))) hini_X5 (by decide +kernel) ⟨Nat.le_of_ble_eq_true rfl, Nat.le_of_ble_eq_true rfl⟩, hst_X5_within, trivial⟩ hK hNW hP hD hS hA rfl rfl rfl rfl (by decide) rfl rfl rfl hl.1 rfl (Nat.le_of_ble_eq_true rfl) dX4_init_20 ⟨Nat.le_of_ble_eq_true rfl, Nat.le_of_ble_eq_true rfl⟩ (fun H locs hP hD hS => ?_)
  refine li_putF (ci := 4) (v := .int (iI (wiA z 1 50))) (ty := .int) (C := RX4) (T := TX4) (N := 8) (q0 := 0) (k := 1) (w2 := [(W0, .inr (4, [.int (iI (wiA y 5 40)), .int (iI (wiA z 1 50)), .null, .int (iI 0), .int (iI 0), .int (iI 0), .int (iI 0), .int (iI 0)]))]) hx hb hts hin_X4 tyX4_ok nmX4 hown hK hP hD hS rfl rfl (by decide) hf_19 rfl rfl hin rfl (by decide +kernel) rfl rfl (Nat.le_of_ble_eq_true rfl) dX4_init_23 rfl (fun H locs hP hD hS => ?_)
  refine lv_aload_n hx hb dX4_init_26 rfl (lv_at hl 0 rfl) ?_
  refine lv_iload_n hx hb dX4_init_27 rfl (lv_at hl 1 rfl) ?_
  refine li_const hx hb dX4_init_28 ?_
  refine li_bipush hx hb dX4_init_29 (by decide) ?_
  refine csN_i0 (isC := []) (isR := [0]) (isN := [0]) (wr := [(W0, .inr (4, [.int (iI (wiA y 5 40)), .int (iI (wiA z 1 50)), .null, .int (iI 0), .int (iI 0), .int (iI 0), .int (iI 0), .int (iI 0)]))]) (wn := [(W0, .inr (4, [.int (iI (wiA y 5 40)), .int (iI (wiA z 1 50)), .null, .int (iI 0), .int (iI 0), .int (iI 0), .int (iI 0), .int (iI 0)]))]) (As := [.int (iI x), .int (iI 1), .int (iI 6)]) (rest := [.ref W0]) (r := wiA x 1 6) ⟨hx, hb, hml, hown, hts⟩ (c_X5_within x 1 6 (by first | assumption | omega) (by first | assumption | omega) (by first | assumption | omega)) ⟨va_cnB (host := "LockStaircase") 3 hts gX4_init_X5_within_n9 rfl rfl rfl (va_Nw.use rfl (hNW _ (by decide +kernel))) hini_X5 (by decide +kernel) ⟨Nat.le_of_ble_eq_true rfl, Nat.le_of_ble_eq_true rfl⟩, hst_X5_within, trivial⟩ hK hNW hP hD hS hA rfl rfl rfl rfl (by decide) rfl rfl rfl hl.1 rfl (Nat.le_of_ble_eq_true rfl) dX4_init_31 ⟨Nat.le_of_ble_eq_true rfl, Nat.le_of_ble_eq_true rfl⟩ (fun H locs hP hD hS => ?_)
  refine li_newa (atype := .int) (ty := .int) 0 (a0 := ((wiA x 1 6).toNat, .inl (aZ fun _ => 0))) (N' := (wiA x 1 6).toNat) hx hb har_int rfl (fun _ h => nomatch h) rfl hK hP hD hS hA (fun cA => z_cell cA _) (fun h => by have h2 := (iI_lt (ib_i (by omega) (by omega)) ib_0).mp h; omega) (iI_cl (by omega) (ib_i (by omega) (by omega))) (by show (wiA x 1 6).toNat * 4 ≤ _; omega) (Nat.le_of_ble_eq_true rfl) (by show 0 + (wiA x 1 6).toNat ≤ 6; omega) dX4_init_34 (fun q34 H hP hD hS => ?_)
  refine li_putF (ci := 4) (v := .ref q34) (ty := (.array .int)) (C := RX4) (T := TX4) (N := 8) (q0 := 0) (k := 2) (w2 := [(W0, .inr (4, [.int (iI (wiA y 5 40)), .int (iI (wiA z 1 50)), .ref q34, .int (iI 0), .int (iI 0), .int (iI 0), .int (iI 0), .int (iI 0)]))] ++ [(q34, .inl (cI, (wiA x 1 6).toNat, .inl (aZ (fun _ => 0))))]) hx hb hts hin_X4 tyX4_ok nmX4 hown hK hP hD hS rfl rfl (by decide) hf_22 rfl rfl hin rfl (by decide +kernel) rfl rfl (Nat.le_of_ble_eq_true rfl) dX4_init_36 rfl (fun H locs hP hD hS => ?_)
  refine li_wide (k := 1) (n := 6) (by omega) (by omega) ?_
  refine li_const hx hb dX4_init_39 ?_
  refine lv_istore (lv' := [(4, .int (iI 0)), (0, .ref W0), (1, .int (iI x)), (2, .int (iI y)), (3, .int (iI z))]) hx hb dX4_init_40 hl (by decide) rfl (fun ls hl => ?_)
  have loop_42 : ∀ (N : Nat) (j : Int) (f2 : Int → Int), (0 ≤ j ∧ j ≤ wiA x 1 6) → (∀ q : Int, f2 q = if 0 ≤ q ∧ q < j then q * (wiA y 5 40) else 0) → wiA x 1 6 - j < (N : Int) → ∀ (H : Heap) (locs : List Loc), va_P D vwCl ([(W0, .inr (4, [.int (iI (wiA y 5 40)), .int (iI (wiA z 1 50)), .ref q34, .int (iI 0), .int (iI 0), .int (iI 0), .int (iI 0), .int (iI 0)]))] ++ [(q34, .inl (cI, (wiA x 1 6).toNat, .inl (aZ f2)))]) H → va_D A ([(W0, .inr (4, [.int (iI (wiA y 5 40)), .int (iI (wiA z 1 50)), .ref q34, .int (iI 0), .int (iI 0), .int (iI 0), .int (iI 0), .int (iI 0)]))] ++ [(q34, .inl (cI, (wiA x 1 6).toNat, .inl (aZ f2)))]) → va_S A s.heap H locs → ∀ (ls : Array Slot), lv_has ls 5 [(4, .int (iI j)), (0, .ref W0), (1, .int (iI x)), (2, .int (iI y)), (3, .int (iI z))] → W p l e (rK 2 1 6) s mI args below meth c_0 H locs 1 6 Q (F0 mI 42 ls []) := by
    intro N
    induction N with
    | zero =>
      intro j f2 hj hf hN
      exact absurd hN (by omega)
    | succ N ih =>
      intro j f2 hj hf hN H locs hP hD hS ls hl
      refine lv_iload hx hb dX4_init_42 (lv_at hl 0 rfl) ?_
      refine lv_aload_n hx hb dX4_init_44 rfl (lv_at hl 1 rfl) ?_
      refine li_get (ci := 4) (v := .ref q34) (C := RX4) (T := TX4) (N := 8) (q0 := 0) (k := 2) hx hb hts hin_X4 hown hK hP rfl rfl (by decide) hf_22 rfl rfl dX4_init_45 ?_
      refine li_alen (q0 := 1) (t0 := 0) (z := wiA x 1 6) hx hb hK hP rfl rfl (by omega) dX4_init_48 ?_
      refine li_icmp_ge (tgt := 72) hx hb dX4_init_49 (by decide) (ib_i (by omega) (by omega)) (ib_i (by omega) (by omega)) (fun c_49 => ?_) (fun c_49 => ?_)
      · refine lv_aload_n hx hb dX4_init_72 rfl (lv_at hl 1 rfl) ?_
        refine lv_aload_n hx hb dX4_init_73 rfl (lv_at hl 1 rfl) ?_
        refine li_get (ci := 4) (v := .ref q34) (C := RX4) (T := TX4) (N := 8) (q0 := 0) (k := 2) hx hb hts hin_X4 hown hK hP rfl rfl (by decide) hf_22 rfl rfl dX4_init_74 ?_
        refine li_alen (q0 := 1) (t0 := 0) (z := wiA x 1 6) hx hb hK hP rfl rfl (by omega) dX4_init_77 ?_
        refine lv_aload_n hx hb dX4_init_78 rfl (lv_at hl 1 rfl) ?_
        refine li_get (ci := 4) (v := .int (iI (wiA y 5 40))) (C := RX4) (T := TX4) (N := 8) (q0 := 0) (k := 0) hx hb hts hin_X4 hown hK hP rfl rfl (by decide) hf_13 rfl rfl dX4_init_79 ?_
        refine li_mul hx hb dX4_init_82 ?_
        refine li_bipush hx hb dX4_init_83 (by decide) ?_
        refine li_sub hx hb dX4_init_85 ?_
        refine li_putF (ci := 4) (v := .int (iI (((wiA x 1 6) * (wiA y 5 40)) - 20))) (ty := .int) (C := RX4) (T := TX4) (N := 8) (q0 := 0) (k := 3) (w2 := [(W0, .inr (4, [.int (iI (wiA y 5 40)), .int (iI (wiA z 1 50)), .ref q34, .int (iI (((wiA x 1 6) * (wiA y 5 40)) - 20)), .int (iI 0), .int (iI 0), .int (iI 0), .int (iI 0)]))] ++ [(q34, .inl (cI, (wiA x 1 6).toNat, .inl (aZ f2)))]) hx hb hts hin_X4 tyX4_ok nmX4 hown hK hP hD hS rfl rfl (by decide) hf_26 rfl rfl hin rfl (by decide +kernel) rfl rfl (Nat.le_of_ble_eq_true rfl) dX4_init_86 rfl (fun H locs hP hD hS => ?_)
        refine lv_aload_n hx hb dX4_init_89 rfl (lv_at hl 1 rfl) ?_
        refine li_bipush hx hb dX4_init_90 (by decide) ?_
        refine lv_aload_n hx hb dX4_init_92 rfl (lv_at hl 1 rfl) ?_
        refine li_get (ci := 4) (v := .int (iI (wiA z 1 50))) (C := RX4) (T := TX4) (N := 8) (q0 := 0) (k := 1) hx hb hts hin_X4 hown hK hP rfl rfl (by decide) hf_19 rfl rfl dX4_init_93 ?_
        refine li_mul hx hb dX4_init_96 ?_
        refine li_put (ci := 4) (v := .int (iI (20 * (wiA z 1 50)))) (ty := .int) (C := RX4) (T := TX4) (N := 8) (q0 := 0) (k := 4) (w2 := [(W0, .inr (4, [.int (iI (wiA y 5 40)), .int (iI (wiA z 1 50)), .ref q34, .int (iI (((wiA x 1 6) * (wiA y 5 40)) - 20)), .int (iI (20 * (wiA z 1 50))), .int (iI 0), .int (iI 0), .int (iI 0)]))] ++ [(q34, .inl (cI, (wiA x 1 6).toNat, .inl (aZ f2)))]) hx hb hts hin_X4 tyX4_ok nmX4 hown hK hP hD hS rfl rfl (by decide) hf_29 rfl rfl (by decide +kernel) rfl rfl (Nat.le_of_ble_eq_true rfl) dX4_init_97 rfl (fun H locs hP hD hS => ?_)
        have hP : va_P D vwCl ([(W0, .inr (4, [.int (iI (wiA y 5 40)), .int (iI (wiA z 1 50)), .ref q34, .int (iI (((wiA x 1 6) * (wiA y 5 40)) - 20)), .int (iI (20 * (wiA z 1 50))), .int (iI 0), .int (iI 0), .int (iI 0)]))] ++ [(q34, .inl (cI, (wiA x 1 6).toNat, .inl (aZ (lvf (wiA y 5 40) (fun _ => 0)))))]) H := va_P_ext (ws := [(W0, .inr (4, [.int (iI (wiA y 5 40)), .int (iI (wiA z 1 50)), .ref q34, .int (iI (((wiA x 1 6) * (wiA y 5 40)) - 20)), .int (iI (20 * (wiA z 1 50))), .int (iI 0), .int (iI 0), .int (iI 0)]))] ++ [(q34, .inl (cI, (wiA x 1 6).toNat, .inl (aZ f2)))]) (q1 := 1) (a := q34) (c1 := cI) (n := (wiA x 1 6).toNat) (f := aZ f2) (g := aZ (lvf (wiA y 5 40) (fun _ => 0))) (Nat.le_of_ble_eq_true rfl) (fun i hi => by show iI (f2 (i : Int)) = iI ((i : Int) * (wiA y 5 40) + 0); rw [hf, if_pos (by omega), Int.add_zero]) hP
        have hD : va_D A ([(W0, .inr (4, [.int (iI (wiA y 5 40)), .int (iI (wiA z 1 50)), .ref q34, .int (iI (((wiA x 1 6) * (wiA y 5 40)) - 20)), .int (iI (20 * (wiA z 1 50))), .int (iI 0), .int (iI 0), .int (iI 0)]))] ++ [(q34, .inl (cI, (wiA x 1 6).toNat, .inl (aZ (lvf (wiA y 5 40) (fun _ => 0)))))]) := hD.set (p := 1) rfl
        refine li_wide (k := 1) (n := 6) (Nat.le_of_ble_eq_true rfl) (Nat.le_of_ble_eq_true rfl) ?_
        exact li_vret (fun i => [q34].getD i 0) hx hb hr hlocks hK hP hD hS dX4_init_100 hQ rfl trivial
      · refine lv_aload_n hx hb dX4_init_52 rfl (lv_at hl 1 rfl) ?_
        refine li_get (ci := 4) (v := .ref q34) (C := RX4) (T := TX4) (N := 8) (q0 := 0) (k := 2) hx hb hts hin_X4 hown hK hP rfl rfl (by decide) hf_22 rfl rfl dX4_init_53 ?_
        refine lv_iload hx hb dX4_init_56 (lv_at hl 0 rfl) ?_
        refine lv_iload hx hb dX4_init_58 (lv_at hl 0 rfl) ?_
        refine lv_aload_n hx hb dX4_init_60 rfl (lv_at hl 1 rfl) ?_
        refine li_get (ci := 4) (v := .int (iI (wiA y 5 40))) (C := RX4) (T := TX4) (N := 8) (q0 := 0) (k := 0) hx hb hts hin_X4 hown hK hP rfl rfl (by decide) hf_13 rfl rfl dX4_init_61 ?_
        refine li_mul hx hb dX4_init_64 ?_
        refine li_iast (q0 := 1) (t0 := 0) (g := f2) (w2 := [(W0, .inr (4, [.int (iI (wiA y 5 40)), .int (iI (wiA z 1 50)), .ref q34, .int (iI 0), .int (iI 0), .int (iI 0), .int (iI 0), .int (iI 0)]))] ++ [(q34, .inl (cI, (wiA x 1 6).toNat, .inl (aZ (upZ f2 j (j * (wiA y 5 40))))))]) hx hb hK hP hD hS rfl rfl (by omega) (by omega) (ib_i (by omega) (by omega)) dX4_init_65 rfl (fun H locs hP hD hS => ?_)
        refine li_inc (j := 0) (lv' := [(4, .int (iI (j + 1))), (0, .ref W0), (1, .int (iI x)), (2, .int (iI y)), (3, .int (iI z))]) hx hb dX4_init_66 hl rfl (by decide) rfl (fun ls hl => ?_)
        refine lv_goto (tgt := 42) hx hb dX4_init_69 (by decide) ?_
        exact ih (j + 1) (upZ f2 j (j * (wiA y 5 40))) (by omega) (by intro q; show (if q = j then j * (wiA y 5 40) else f2 q) = _; by_cases c : q = j; (rw [if_pos c, if_pos (by omega), c]); (rw [if_neg c, hf]; by_cases d : 0 ≤ q ∧ q < j; (rw [if_pos d, if_pos (by omega)]); (rw [if_neg d, if_neg (by omega)]))) (by omega) _ _ hP hD hS _ (lv_sub hl [0, 1, 2, 3, 4] rfl)
  exact loop_42 (((wiA x 1 6 - 0) : Int) + 1).toNat 0 (fun _ => 0) (by omega) (by intro q; rw [if_neg (by omega)]) (by omega) _ _ hP hD hS _ (lv_sub hl [0, 1, 2, 3, 4] rfl)
