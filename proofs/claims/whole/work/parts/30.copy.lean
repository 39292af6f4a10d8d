set_option maxRecDepth 100000 in
set_option maxHeartbeats 4000000 in
theorem c_X4_copyFrom {l : Launch} {D : va_G} {cI cZ cJ : ClassId} (n : Int) (L : Int) (a : Int) (gdt : Int) (wt : Wt) (gd : Int) (w : Wt) (W0t W1t W0 W1 : Nat) (hn : 1 ≤ n ∧ n ≤ 6) (hL : 5 ≤ L ∧ L ≤ 40) (ha : 1 ≤ a ∧ a ≤ 50) : Dv l yX4_copyFrom wsX4_copyFrom 2 [.ref W0t, .ref W0] D (ty3 cI cZ cJ) (cWa cI n L a gdt wt W0t W1t ++ cWa cI n L a gd w W0 W1) (cWa cI n L a gd w W0t W1t ++ cWa cI n L a gd w W0 W1) := by
  refine ct_v (plainFor_of_name (by decide)) rfl (Nat.le_of_ble_eq_true rfl) ?_
  intro p e s mI args below meth c_0 ls A hx hb hr hml hts hown hlocks hin hA hP hK hD hNW hS hl Q hQ
  have hown : s.vm.findClass RX4 = some mI.cls := hown
  have hl : lv_has ls 2 [(0, .ref W0t), (1, .ref W0)] := hl
  have hin_X4 : ∀ w ∈ wsX40, w ∈ wsX4_copyFrom := by decide +kernel
  have hk_min := hts (.code Lib.Math.min.name Lib.Math.min.code 2 (some .int)) (by decide +kernel)
  have hf_22 := hts (.fieldLink RX4 22 "LockStaircase$Water" "levels" "[I") (by decide +kernel)
  have hf_29 := hts (.fieldLink RX4 29 "LockStaircase$Water" "pound" "I") (by decide +kernel)
  have hf_44 := hts (.fieldLink RX4 44 "LockStaircase$Water" "lost" "I") (by decide +kernel)
  have hf_47 := hts (.fieldLink RX4 47 "LockStaircase$Water" "gained" "I") (by decide +kernel)
  have hf_50 := hts (.fieldLink RX4 50 "LockStaircase$Water" "minutes" "I") (by decide +kernel)
  have hi_Math := hts (.initialized "java/lang/Math") (by decide +kernel)
  have hi_Sys := hts (.initialized "java/lang/System") (by decide +kernel)
  have hm_32 := hts (.methodLink RX4 32 Lib.Math.min.name) (by decide +kernel)
  have hm_38 := hts (.methodLink RX4 38 arraycopyName) (by decide +kernel)
  have hn_ac := hts (.native arraycopyName) (by decide +kernel)
  have hs_min := hts (.static Lib.Math.min.name) (by decide +kernel)
  have hs_ac := hts (.static arraycopyName) (by decide +kernel)
  refine lv_aload_n hx hb dX4_copyFrom_0 rfl (lv_at hl 1 rfl) ?_
  refine li_get (ci := 4) (v := .ref W1) (C := RX4) (T := TX4) (N := 8) (q0 := 2) (k := 2) hx hb hts hin_X4 hown hK hP rfl rfl (by decide) hf_22 rfl rfl dX4_copyFrom_1 ?_
  refine li_const hx hb dX4_copyFrom_4 ?_
  refine lv_aload_n hx hb dX4_copyFrom_5 rfl (lv_at hl 0 rfl) ?_
  refine li_get (ci := 4) (v := .ref W1t) (C := RX4) (T := TX4) (N := 8) (q0 := 0) (k := 2) hx hb hts hin_X4 hown hK hP rfl rfl (by decide) hf_22 rfl rfl dX4_copyFrom_6 ?_
  refine li_const hx hb dX4_copyFrom_9 ?_
  refine lv_aload_n hx hb dX4_copyFrom_10 rfl (lv_at hl 1 rfl) ?_
  refine li_get (ci := 4) (v := .ref W1) (C := RX4) (T := TX4) (N := 8) (q0 := 2) (k := 2) hx hb hts hin_X4 hown hK hP rfl rfl (by decide) hf_22 rfl rfl dX4_copyFrom_11 ?_
  refine li_alen (q0 := 3) (t0 := 0) (z := n) hx hb hK hP rfl rfl (by omega) dX4_copyFrom_14 ?_
  refine lv_aload_n hx hb dX4_copyFrom_15 rfl (lv_at hl 0 rfl) ?_
  refine li_get (ci := 4) (v := .ref W1t) (C := RX4) (T := TX4) (N := 8) (q0 := 0) (k := 2) hx hb hts hin_X4 hown hK hP rfl rfl (by decide) hf_22 rfl rfl dX4_copyFrom_16 ?_
  refine li_alen (q0 := 1) (t0 := 0) (z := n) hx hb hK hP rfl rfl (by omega) dX4_copyFrom_19 ?_
  refine li_min hx hb (hml.trans hl.1.symm) hown hm_32 hs_min hi_Math hk_min (Nat.le_of_ble_eq_true rfl) (Nat.le_of_ble_eq_true rfl) (Nat.zero_le _) (Nat.zero_le _) (ib_i (by omega) (by omega)) (ib_i (by omega) (by omega)) dX4_copyFrom_20 ?_
  refine li_top (b := n) (by first | exact if_pos (by omega) | exact if_neg (by omega)) ?_
  refine li_copyA (w2 := cWa cI n L a gdt (wt.1, wt.2.1, wt.2.2.1, w.2.2.2) W0t W1t ++ cWa cI n L a gd w W0 W1) hx hb (hml.trans hl.1.symm) hown hm_38 hn_ac hs_ac hi_Sys hK hP hD hS 3 1 0 rfl rfl rfl (by omega) (ib_i (by omega) (by omega)) (Nat.le_of_ble_eq_true rfl) (Nat.le_of_ble_eq_true rfl) dX4_copyFrom_23 rfl (fun H locs hP hD hS => ?_)
  refine lv_aload_n hx hb dX4_copyFrom_26 rfl (lv_at hl 0 rfl) ?_
  refine lv_aload_n hx hb dX4_copyFrom_27 rfl (lv_at hl 1 rfl) ?_
  refine li_get (ci := 4) (v := .int (iI w.1)) (C := RX4) (T := TX4) (N := 8) (q0 := 2) (k := 4) hx hb hts hin_X4 hown hK hP rfl rfl (by decide) hf_29 rfl rfl dX4_copyFrom_28 ?_
  refine li_put (ci := 4) (v := .int (iI w.1)) (ty := .int) (C := RX4) (T := TX4) (N := 8) (q0 := 0) (k := 4) (w2 := cWa cI n L a gdt (w.1, wt.2.1, wt.2.2.1, w.2.2.2) W0t W1t ++ cWa cI n L a gd w W0 W1) hx hb hts hin_X4 tyX4_ok nmX4 hown hK hP hD hS rfl rfl (by decide) hf_29 rfl rfl (by decide +kernel) rfl rfl (Nat.le_of_ble_eq_true rfl) dX4_copyFrom_31 rfl (fun H locs hP hD hS => ?_)
  refine lv_aload_n hx hb dX4_copyFrom_34 rfl (lv_at hl 0 rfl) ?_
  refine lv_aload_n hx hb dX4_copyFrom_35 rfl (lv_at hl 1 rfl) ?_
  refine li_get (ci := 4) (v := .int (iI w.2.1)) (C := RX4) (T := TX4) (N := 8) (q0 := 2) (k := 5) hx hb hts hin_X4 hown hK hP rfl rfl (by decide) hf_44 rfl rfl dX4_copyFrom_36 ?_
  refine li_put (ci := 4) (v := .int (iI w.2.1)) (ty := .int) (C := RX4) (T := TX4) (N := 8) (q0 := 0) (k := 5) (w2 := cWa cI n L a gdt (w.1, w.2.1, wt.2.2.1, w.2.2.2) W0t W1t ++ cWa cI n L a gd w W0 W1) hx hb hts hin_X4 tyX4_ok nmX4 hown hK hP hD hS rfl rfl (by decide) hf_44 rfl rfl (by decide +kernel) rfl rfl (Nat.le_of_ble_eq_true rfl) dX4_copyFrom_39 rfl (fun H locs hP hD hS => ?_)
  refine lv_aload_n hx hb dX4_copyFrom_42 rfl (lv_at hl 0 rfl) ?_
  refine lv_aload_n hx hb dX4_copyFrom_43 rfl (lv_at hl 1 rfl) ?_
  refine li_get (ci := 4) (v := .int (iI gd)) (C := RX4) (T := TX4) (N := 8) (q0 := 2) (k := 6) hx hb hts hin_X4 hown hK hP rfl rfl (by decide) hf_47 rfl rfl dX4_copyFrom_44 ?_
  refine li_put (ci := 4) (v := .int (iI gd)) (ty := .int) (C := RX4) (T := TX4) (N := 8) (q0 := 0) (k := 6) (w2 := cWa cI n L a gd (w.1, w.2.1, wt.2.2.1, w.2.2.2) W0t W1t ++ cWa cI n L a gd w W0 W1) hx hb hts hin_X4 tyX4_ok nmX4 hown hK hP hD hS rfl rfl (by decide) hf_47 rfl rfl (by decide +kernel) rfl rfl (Nat.le_of_ble_eq_true rfl) dX4_copyFrom_47 rfl (fun H locs hP hD hS => ?_)
  refine lv_aload_n hx hb dX4_copyFrom_50 rfl (lv_at hl 0 rfl) ?_
  refine lv_aload_n hx hb dX4_copyFrom_51 rfl (lv_at hl 1 rfl) ?_
  refine li_get (ci := 4) (v := .int (iI w.2.2.1)) (C := RX4) (T := TX4) (N := 8) (q0 := 2) (k := 7) hx hb hts hin_X4 hown hK hP rfl rfl (by decide) hf_50 rfl rfl dX4_copyFrom_52 ?_
  refine li_put (ci := 4) (v := .int (iI w.2.2.1)) (ty := .int) (C := RX4) (T := TX4) (N := 8) (q0 := 0) (k := 7) (w2 := cWa cI n L a gd (w.1, w.2.1, w.2.2.1, w.2.2.2) W0t W1t ++ cWa cI n L a gd w W0 W1) hx hb hts hin_X4 tyX4_ok nmX4 hown hK hP hD hS rfl rfl (by decide) hf_50 rfl rfl (by decide +kernel) rfl rfl (Nat.le_of_ble_eq_true rfl) dX4_copyFrom_55 rfl (fun H locs hP hD hS => ?_)
  exact li_vret () hx hb hr hlocks hK hP hD hS dX4_copyFrom_58 hQ rfl trivial

set_option maxRecDepth 100000 in
set_option maxHeartbeats 4000000 in
theorem c_X0_copyFrom {l : Launch} {D : va_G} {cI cZ cJ : ClassId} (cntt : Int) (lnt : Int → Int) (drt : Int → Int) (plt : Int → Int) (cnt : Int) (ln : Int → Int) (dr : Int → Int) (pl : Int → Int) (B0t B1t B2t B3t B0 B1 B2 B3 : Nat)  : Dv l yX0_copyFrom wsX0_copyFrom 2 [.ref B0t, .ref B0] D (ty3 cI cZ cJ) (cFl cI cntt lnt drt plt B0t B1t B2t B3t ++ cFl cI cnt ln dr pl B0 B1 B2 B3) (cFl cI cnt ln dr pl B0t B1t B2t B3t ++ cFl cI cnt ln dr pl B0 B1 B2 B3) := by
  refine ct_v (plainFor_of_name (by decide)) rfl (Nat.le_of_ble_eq_true rfl) ?_
  intro p e s mI args below meth c_0 ls A hx hb hr hml hts hown hlocks hin hA hP hK hD hNW hS hl Q hQ
  have hown : s.vm.findClass RX0 = some mI.cls := hown
  have hl : lv_has ls 2 [(0, .ref B0t), (1, .ref B0)] := hl
  have hin_X0 : ∀ w ∈ wsX00, w ∈ wsX0_copyFrom := by decide +kernel
  have hf_15 := hts (.fieldLink RX0 15 "LockStaircase$Fleet" "draughts" "[I") (by decide +kernel)
  have hf_18 := hts (.fieldLink RX0 18 "LockStaircase$Fleet" "places" "[I") (by decide +kernel)
  have hf_27 := hts (.fieldLink RX0 27 "LockStaircase$Fleet" "count" "I") (by decide +kernel)
  have hf_9 := hts (.fieldLink RX0 9 "LockStaircase$Fleet" "lengths" "[I") (by decide +kernel)
  have hi_Sys := hts (.initialized "java/lang/System") (by decide +kernel)
  have hm_21 := hts (.methodLink RX0 21 arraycopyName) (by decide +kernel)
  have hn_ac := hts (.native arraycopyName) (by decide +kernel)
  have hs_ac := hts (.static arraycopyName) (by decide +kernel)
  refine lv_aload_n hx hb dX0_copyFrom_0 rfl (lv_at hl 1 rfl) ?_
  refine li_get (ci := 0) (v := .ref B1) (C := RX0) (T := TX0) (N := 4) (q0 := 4) (k := 0) hx hb hts hin_X0 hown hK hP rfl rfl (by decide) hf_9 rfl rfl dX0_copyFrom_1 ?_
  refine li_const hx hb dX0_copyFrom_4 ?_
  refine lv_aload_n hx hb dX0_copyFrom_5 rfl (lv_at hl 0 rfl) ?_
  refine li_get (ci := 0) (v := .ref B1t) (C := RX0) (T := TX0) (N := 4) (q0 := 0) (k := 0) hx hb hts hin_X0 hown hK hP rfl rfl (by decide) hf_9 rfl rfl dX0_copyFrom_6 ?_
  refine li_const hx hb dX0_copyFrom_9 ?_
  refine li_bipush hx hb dX0_copyFrom_10 (by decide) ?_
  refine li_copyA (w2 := cFl cI cntt ln drt plt B0t B1t B2t B3t ++ cFl cI cnt ln dr pl B0 B1 B2 B3) hx hb (hml.trans hl.1.symm) hown hm_21 hn_ac hs_ac hi_Sys hK hP hD hS 5 1 0 rfl rfl rfl (by omega) (by decide) (Nat.le_of_ble_eq_true rfl) (Nat.le_of_ble_eq_true rfl) dX0_copyFrom_12 rfl (fun H locs hP hD hS => ?_)
  refine lv_aload_n hx hb dX0_copyFrom_15 rfl (lv_at hl 1 rfl) ?_
  refine li_get (ci := 0) (v := .ref B2) (C := RX0) (T := TX0) (N := 4) (q0 := 4) (k := 1) hx hb hts hin_X0 hown hK hP rfl rfl (by decide) hf_15 rfl rfl dX0_copyFrom_16 ?_
  refine li_const hx hb dX0_copyFrom_19 ?_
  refine lv_aload_n hx hb dX0_copyFrom_20 rfl (lv_at hl 0 rfl) ?_
  refine li_get (ci := 0) (v := .ref B2t) (C := RX0) (T := TX0) (N := 4) (q0 := 0) (k := 1) hx hb hts hin_X0 hown hK hP rfl rfl (by decide) hf_15 rfl rfl dX0_copyFrom_21 ?_
  refine li_const hx hb dX0_copyFrom_24 ?_
  refine li_bipush hx hb dX0_copyFrom_25 (by decide) ?_
  refine li_copyA (w2 := cFl cI cntt ln dr plt B0t B1t B2t B3t ++ cFl cI cnt ln dr pl B0 B1 B2 B3) hx hb (hml.trans hl.1.symm) hown hm_21 hn_ac hs_ac hi_Sys hK hP hD hS 6 2 0 rfl rfl rfl (by omega) (by decide) (Nat.le_of_ble_eq_true rfl) (Nat.le_of_ble_eq_true rfl) dX0_copyFrom_27 rfl (fun H locs hP hD hS => ?_)
  refine lv_aload_n hx hb dX0_copyFrom_30 rfl (lv_at hl 1 rfl) ?_
  refine li_get (ci := 0) (v := .ref B3) (C := RX0) (T := TX0) (N := 4) (q0 := 4) (k := 2) hx hb hts hin_X0 hown hK hP rfl rfl (by decide) hf_18 rfl rfl dX0_copyFrom_31 ?_
  refine li_const hx hb dX0_copyFrom_34 ?_
  refine lv_aload_n hx hb dX0_copyFrom_35 rfl (lv_at hl 0 rfl) ?_
  refine li_get (ci := 0) (v := .ref B3t) (C := RX0) (T := TX0) (N := 4) (q0 := 0) (k := 2) hx hb hts hin_X0 hown hK hP rfl rfl (by decide) hf_18 rfl rfl dX0_copyFrom_36 ?_
  refine li_const hx hb dX0_copyFrom_39 ?_
  refine li_bipush hx hb dX0_copyFrom_40 (by decide) ?_
  refine li_copyA (w2 := cFl cI cntt ln dr pl B0t B1t B2t B3t ++ cFl cI cnt ln dr pl B0 B1 B2 B3) hx hb (hml.trans hl.1.symm) hown hm_21 hn_ac hs_ac hi_Sys hK hP hD hS 7 3 0 rfl rfl rfl (by omega) (by decide) (Nat.le_of_ble_eq_true rfl) (Nat.le_of_ble_eq_true rfl) dX0_copyFrom_42 rfl (fun H locs hP hD hS => ?_)
  refine lv_aload_n hx hb dX0_copyFrom_45 rfl (lv_at hl 0 rfl) ?_
  refine lv_aload_n hx hb dX0_copyFrom_46 rfl (lv_at hl 1 rfl) ?_
  refine li_get (ci := 0) (v := .int (iI cnt)) (C := RX0) (T := TX0) (N := 4) (q0 := 4) (k := 3) hx hb hts hin_X0 hown hK hP rfl rfl (by decide) hf_27 rfl rfl dX0_copyFrom_47 ?_
  refine li_put (ci := 0) (v := .int (iI cnt)) (ty := .int) (C := RX0) (T := TX0) (N := 4) (q0 := 0) (k := 3) (w2 := cFl cI cnt ln dr pl B0t B1t B2t B3t ++ cFl cI cnt ln dr pl B0 B1 B2 B3) hx hb hts hin_X0 tyX0_ok nmX0 hown hK hP hD hS rfl rfl (by decide) hf_27 rfl rfl (by decide +kernel) rfl rfl (Nat.le_of_ble_eq_true rfl) dX0_copyFrom_50 rfl (fun H locs hP hD hS => ?_)
  exact li_vret () hx hb hr hlocks hK hP hD hS dX0_copyFrom_53 hQ rfl trivial

set_option maxRecDepth 100000 in
set_option maxHeartbeats 4000000 in
theorem c_X2_copyWaterAndBoats {l : Launch} {D : va_G} {cI cZ cJ : ClassId} (n : Int) (L : Int) (a : Int) (gdt : Int) (wt : Wt) (cntt : Int) (lnt : Int → Int) (drt : Int → Int) (plt : Int → Int) (gd : Int) (w : Wt) (cnt : Int) (ln : Int → Int) (dr : Int → Int) (pl : Int → Int) (L0t W0t W1t B0t B1t B2t B3t L0 W0 W1 B0 B1 B2 B3 G0t P0t G0 P0 : Nat) (hn : 1 ≤ n ∧ n ≤ 6) (hL : 5 ≤ L ∧ L ≤ 40) (ha : 1 ≤ a ∧ a ≤ 50) : Dv l yX2_copyWaterAndBoats wsX2_copyWaterAndBoats 3 [.ref L0t, .ref L0] D (ty3 cI cZ cJ) (cLa   L0t W0t G0t B0t P0t ++ cWa cI n L a gdt wt W0t W1t ++ cFl cI cntt lnt drt plt B0t B1t B2t B3t ++ cLa   L0 W0 G0 B0 P0 ++ cWa cI n L a gd w W0 W1 ++ cFl cI cnt ln dr pl B0 B1 B2 B3) (cLa   L0t W0t G0t B0t P0t ++ cWa cI n L a gd w W0t W1t ++ cFl cI cnt ln dr pl B0t B1t B2t B3t ++ cLa   L0 W0 G0 B0 P0 ++ cWa cI n L a gd w W0 W1 ++ cFl cI cnt ln dr pl B0 B1 B2 B3) := by
  refine ct_v (plainFor_of_name (by decide)) rfl (Nat.le_of_ble_eq_true rfl) ?_
  intro p e s mI args below meth c_0 ls A hx hb hr hml hts hown hlocks hin hA hP hK hD hNW hS hl Q hQ
  have hown : s.vm.findClass RX2 = some mI.cls := hown
  have hl : lv_has ls 2 [(0, .ref L0t), (1, .ref L0)] := hl
  have hin_X2 : ∀ w ∈ wsX20, w ∈ wsX2_copyWaterAndBoats := by decide +kernel
  have hf_21 := hts (.fieldLink RX2 21 "LockStaircase$Ladder" "fleet" "LLockStaircase$Fleet;") (by decide +kernel)
  have hf_37 := hts (.fieldLink RX2 37 "LockStaircase$Ladder" "water" "LLockStaircase$Water;") (by decide +kernel)
  refine lv_aload_n hx hb dX2_copyWaterAndBoats_0 rfl (lv_at hl 0 rfl) ?_
  refine li_get (ci := 2) (v := .ref W0t) (C := RX2) (T := TX2) (N := 4) (q0 := 0) (k := 0) hx hb hts hin_X2 hown hK hP rfl rfl (by decide) hf_37 rfl rfl dX2_copyWaterAndBoats_1 ?_
  refine lv_aload_n hx hb dX2_copyWaterAndBoats_4 rfl (lv_at hl 1 rfl) ?_
  refine li_get (ci := 2) (v := .ref W0) (C := RX2) (T := TX2) (N := 4) (q0 := 7) (k := 0) hx hb hts hin_X2 hown hK hP rfl rfl (by decide) hf_37 rfl rfl dX2_copyWaterAndBoats_5 ?_
  refine cl_v0 (isC := [1, 2, 8, 9]) (isR := [0, 3, 4, 5, 6, 7, 10, 11, 12, 13]) (isN := [0, 10, 11, 1, 2, 3, 4, 5, 12, 13, 6, 7, 8, 9]) (wr := cLa   L0t W0t G0t B0t P0t ++ cFl cI cntt lnt drt plt B0t B1t B2t B3t ++ cLa   L0 W0 G0 B0 P0 ++ cFl cI cnt ln dr pl B0 B1 B2 B3) (wn := cLa   L0t W0t G0t B0t P0t ++ cWa cI n L a gd w W0t W1t ++ cFl cI cntt lnt drt plt B0t B1t B2t B3t ++ cLa   L0 W0 G0 B0 P0 ++ cWa cI n L a gd w W0 W1 ++ cFl cI cnt ln dr pl B0 B1 B2 B3) (As := [.ref W0]) (rest := []) (ci := 4) (q0 := 0) ⟨hx, hb, hml, hown, hts⟩ (c_X4_copyFrom n L a gdt wt gd w W0t W1t W0 W1 (by first | assumption | omega) (by first | assumption | omega) (by first | assumption | omega)) (cwV 1 hts gX2_copyWaterAndBoats_X4_copyFrom rfl rfl rfl (by decide +kernel) ⟨Nat.le_of_ble_eq_true rfl, Nat.le_of_ble_eq_true rfl⟩) hK hNW hP hD hS hA rfl rfl rfl rfl (by decide) rfl rfl rfl rfl rfl rfl hl.1 rfl (Nat.le_of_ble_eq_true rfl) dX2_copyWaterAndBoats_8 ⟨Nat.zero_le _, Nat.zero_le _⟩ (fun H locs hP hD hS => ?_)
  refine lv_aload_n hx hb dX2_copyWaterAndBoats_11 rfl (lv_at hl 0 rfl) ?_
  refine li_get (ci := 2) (v := .ref B0t) (C := RX2) (T := TX2) (N := 4) (q0 := 0) (k := 2) hx hb hts hin_X2 hown hK hP rfl rfl (by decide) hf_21 rfl rfl dX2_copyWaterAndBoats_12 ?_
  refine lv_aload_n hx hb dX2_copyWaterAndBoats_15 rfl (lv_at hl 1 rfl) ?_
  refine li_get (ci := 2) (v := .ref B0) (C := RX2) (T := TX2) (N := 4) (q0 := 7) (k := 2) hx hb hts hin_X2 hown hK hP rfl rfl (by decide) hf_21 rfl rfl dX2_copyWaterAndBoats_16 ?_
  refine cl_v0 (isC := [3, 4, 5, 6, 10, 11, 12, 13]) (isR := [0, 1, 2, 7, 8, 9]) (isN := [0, 1, 2, 6, 7, 8, 9, 3, 4, 5, 10, 11, 12, 13]) (wr := cLa   L0t W0t G0t B0t P0t ++ cWa cI n L a gd w W0t W1t ++ cLa   L0 W0 G0 B0 P0 ++ cWa cI n L a gd w W0 W1) (wn := cLa   L0t W0t G0t B0t P0t ++ cWa cI n L a gd w W0t W1t ++ cFl cI cnt ln dr pl B0t B1t B2t B3t ++ cLa   L0 W0 G0 B0 P0 ++ cWa cI n L a gd w W0 W1 ++ cFl cI cnt ln dr pl B0 B1 B2 B3) (As := [.ref B0]) (rest := []) (ci := 0) (q0 := 0) ⟨hx, hb, hml, hown, hts⟩ (c_X0_copyFrom cntt lnt drt plt cnt ln dr pl B0t B1t B2t B3t B0 B1 B2 B3 ) (cwV 1 hts gX2_copyWaterAndBoats_X0_copyFrom rfl rfl rfl (by decide +kernel) ⟨Nat.le_of_ble_eq_true rfl, Nat.le_of_ble_eq_true rfl⟩) hK hNW hP hD hS hA rfl rfl rfl rfl (by decide) rfl rfl rfl rfl rfl rfl hl.1 rfl (Nat.le_of_ble_eq_true rfl) dX2_copyWaterAndBoats_19 ⟨Nat.zero_le _, Nat.zero_le _⟩ (fun H locs hP hD hS => ?_)
  exact li_vret () hx hb hr hlocks hK hP hD hS dX2_copyWaterAndBoats_22 hQ rfl trivial
