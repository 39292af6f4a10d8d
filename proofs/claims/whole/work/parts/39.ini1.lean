set_option maxRecDepth 100000 in
set_option maxHeartbeats 4000000 in
theorem c_X5_within {l : Launch} {D : va_G} {cI cZ cJ : ClassId} (x : Int) (lo : Int) (hi : Int) (i_x : -2147483648 ≤ x ∧ x < 2147483648) (i_lo : -2147483648 ≤ lo ∧ lo < 2147483648) (i_hi : -2147483648 ≤ hi ∧ hi < 2147483648) : Di l yX5_within wsX5_within 1 [.int (iI x), .int (iI lo), .int (iI hi)] D (ty3 cI cZ cJ) ([]) (wiA x lo hi) ([]) := by
  refine ct_i (plainFor_of_name (by decide)) rfl (Nat.le_of_ble_eq_true rfl) ?_
  intro p e s mI args below meth c_0 ls A hx hb hr hml hts hown hlocks hin hA hP hK hD hNW hS hl Q hQ
  have hown : s.vm.findClass RX5 = some mI.cls := hown
  have hl : lv_has ls 3 [(0, .int (iI x)), (1, .int (iI lo)), (2, .int (iI hi))] := hl
  have hk_max := hts (.code Lib.Math.max.name Lib.Math.max.code 2 (some .int)) (by decide +kernel)
  have hk_min := hts (.code Lib.Math.min.name Lib.Math.min.code 2 (some .int)) (by decide +kernel)
  have hi_Math := hts (.initialized "java/lang/Math") (by decide +kernel)
  have hm_207 := hts (.methodLink RX5 207 Lib.Math.min.name) (by decide +kernel)
  have hm_213 := hts (.methodLink RX5 213 Lib.Math.max.name) (by decide +kernel)
  have hs_max := hts (.static Lib.Math.max.name) (by decide +kernel)
  have hs_min := hts (.static Lib.Math.min.name) (by decide +kernel)
  have hx2 : -2147483648 ≤ (if x < hi then x else hi) ∧ (if x < hi then x else hi) < 2147483648 := by split <;> omega
  refine lv_iload_n hx hb dX5_within_0 rfl (lv_at hl 1 rfl) ?_
  refine lv_iload_n hx hb dX5_within_1 rfl (lv_at hl 2 rfl) ?_
  refine lv_iload_n hx hb dX5_within_2 rfl (lv_at hl 0 rfl) ?_
  refine li_min hx hb (hml.trans hl.1.symm) hown hm_207 hs_min hi_Math hk_min (Nat.le_of_ble_eq_true rfl) (Nat.le_of_ble_eq_true rfl) (Nat.zero_le _) (Nat.zero_le _) (ib_i (by omega) (by omega)) (ib_i (by omega) (by omega)) dX5_within_3 ?_
  refine li_max hx hb (hml.trans hl.1.symm) hown hm_213 hs_max hi_Math hk_max (Nat.le_of_ble_eq_true rfl) (Nat.le_of_ble_eq_true rfl) (Nat.zero_le _) (Nat.zero_le _) (ib_i (by omega) (by omega)) (ib_i (by omega) (by omega)) dX5_within_6 ?_
  exact li_iret () hx hb hr hlocks hK hP hD hS dX5_within_9 hQ rfl (congrArg iI (rfl))

set_option maxRecDepth 100000 in
set_option maxHeartbeats 1000000 in
theorem c_X1_init {l : Launch} {D : va_G} {cI cZ cJ : ClassId} (G0 : Nat)  : CV (S := Nat → Nat) l yX1_init wsX1_init 1 2 14 [.ref G0] D (ty3 cI cZ cJ) ([(G0, .inr (1, [.null, .null]))]) (fun _ => True) (fun u => cGa cI cZ (fun _ => 0) (fun _ => 0) G0 (u 0) (u 1)) := by
  refine ct_v (plainFor_of_name (by decide)) rfl (Nat.le_of_ble_eq_true rfl) ?_
  intro p e s mI args below meth c_0 ls A hx hb hr hml hts hown hlocks hin hA hP hK hD hNW hS hl Q hQ
  have hown : s.vm.findClass RX1 = some mI.cls := hown
  have hl : lv_has ls 1 [(0, .ref G0)] := hl
  have hin_X1 : ∀ w ∈ wsX10, w ∈ wsX1_init := by decide +kernel
  have har_boolean := hts (.arrayClass .boolean) (by decide +kernel)
  have har_int := hts (.arrayClass .int) (by decide +kernel)
  have hoi3 := hts (.code objectInit ⟨#[0xb1]⟩ 1 none) (by decide +kernel)
  have hf_15 := hts (.fieldLink RX1 15 "LockStaircase$Gates" "turns" "[I") (by decide +kernel)
  have hf_9 := hts (.fieldLink RX1 9 "LockStaircase$Gates" "open" "[Z") (by decide +kernel)
  have hoi2 := hts (.instanceMethod objectInit) (by decide +kernel)
  have hoi1 := hts (.methodLink RX1 3 objectInit) (by decide +kernel)
  refine lv_aload_n hx hb dX1_init_0 rfl (lv_at hl 0 rfl) ?_
  refine W.objInit hx hb hown hoi1 hoi2 hoi3 rfl (by rw [hml]; exact hl.1) rfl dX1_init_1 (Nat.le_of_ble_eq_true rfl) (Nat.le_of_ble_eq_true rfl) ?_
  refine lv_aload_n hx hb dX1_init_4 rfl (lv_at hl 0 rfl) ?_
  refine li_bipush hx hb dX1_init_5 (by decide) ?_
  refine li_newa (atype := .boolean) (ty := .boolean) 1 (a0 := (7, .inl (aZ fun _ => 0))) (N' := 7) hx hb har_boolean rfl (fun _ h => nomatch h) rfl hK hP hD hS hA (fun cA => z_cell cA _) (by decide +kernel) (by decide +kernel) (show 7 ≤ 536870912 by omega) (Nat.le_of_ble_eq_true rfl) (Nat.le_of_ble_eq_true rfl) dX1_init_7 (fun q7 H hP hD hS => ?_)
  refine li_putF (ci := 1) (v := .ref q7) (ty := (.array .boolean)) (C := RX1) (T := TX1) (N := 2) (q0 := 0) (k := 0) (w2 := [(G0, .inr (1, [.ref q7, .null]))] ++ [(q7, .inl (cZ, 7, .inl (aZ (fun _ => 0))))]) hx hb hts hin_X1 tyX1_ok nmX1 hown hK hP hD hS rfl rfl (by decide) hf_9 rfl rfl hin rfl (by decide +kernel) rfl rfl (Nat.le_of_ble_eq_true rfl) dX1_init_9 rfl (fun H locs hP hD hS => ?_)
  refine lv_aload_n hx hb dX1_init_12 rfl (lv_at hl 0 rfl) ?_
  refine li_bipush hx hb dX1_init_13 (by decide) ?_
  refine li_newa (atype := .int) (ty := .int) 0 (a0 := (7, .inl (aZ fun _ => 0))) (N' := 7) hx hb har_int rfl (fun _ h => nomatch h) rfl hK hP hD hS hA (fun cA => z_cell cA _) (by decide +kernel) (by decide +kernel) (show 28 ≤ 536870912 by omega) (Nat.le_of_ble_eq_true rfl) (Nat.le_of_ble_eq_true rfl) dX1_init_15 (fun q15 H hP hD hS => ?_)
  refine li_putF (ci := 1) (v := .ref q15) (ty := (.array .int)) (C := RX1) (T := TX1) (N := 2) (q0 := 0) (k := 1) (w2 := [(G0, .inr (1, [.ref q7, .ref q15]))] ++ [(q7, .inl (cZ, 7, .inl (aZ (fun _ => 0))))] ++ [(q15, .inl (cI, 7, .inl (aZ (fun _ => 0))))]) hx hb hts hin_X1 tyX1_ok nmX1 hown hK hP hD hS rfl rfl (by decide) hf_15 rfl rfl hin rfl (by decide +kernel) rfl rfl (Nat.le_of_ble_eq_true rfl) dX1_init_17 rfl (fun H locs hP hD hS => ?_)
  refine li_wide (k := 2) (n := 14) (Nat.le_of_ble_eq_true rfl) (Nat.le_of_ble_eq_true rfl) ?_
  exact li_vret (fun i => [q7, q15].getD i 0) hx hb hr hlocks hK hP hD hS dX1_init_20 hQ rfl trivial
