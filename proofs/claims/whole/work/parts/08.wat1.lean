set_option maxRecDepth 100000 in
set_option maxHeartbeats 4000000 in
theorem c_X4_count {l : Launch} {D : va_G} {cI cZ cJ : ClassId} (n : Int) (L : Int) (a : Int) (gd : Int) (w : Wt) (W0 W1 : Nat) (hn : 1 ≤ n ∧ n ≤ 6) (hL : 5 ≤ L ∧ L ≤ 40) (ha : 1 ≤ a ∧ a ≤ 50) : Di l yX4_count wsX4_count 1 [.ref W0] D (ty3 cI cZ cJ) (cWa cI n L a gd w W0 W1) (n) (cWa cI n L a gd w W0 W1) := by
  refine ct_i (plainFor_of_name (by decide)) rfl (Nat.le_of_ble_eq_true rfl) ?_
  intro p e s mI args below meth c_0 ls A hx hb hr hml hts hown hlocks hin hA hP hK hD hNW hS hl Q hQ
  have hown : s.vm.findClass RX4 = some mI.cls := hown
  have hl : lv_has ls 1 [(0, .ref W0)] := hl
  have hin_X4 : ∀ w ∈ wsX40, w ∈ wsX4_count := by decide +kernel
  have hf_22 := hts (.fieldLink RX4 22 "LockStaircase$Water" "levels" "[I") (by decide +kernel)
  refine lv_aload_n hx hb dX4_count_0 rfl (lv_at hl 0 rfl) ?_
  refine li_get (ci := 4) (v := .ref W1) (C := RX4) (T := TX4) (N := 8) (q0 := 0) (k := 2) hx hb hts hin_X4 hown hK hP rfl rfl (by decide) hf_22 rfl rfl dX4_count_1 ?_
  refine li_alen (q0 := 1) (t0 := 0) (z := n) hx hb hK hP rfl rfl (by omega) dX4_count_4 ?_
  exact li_iret () hx hb hr hlocks hK hP hD hS dX4_count_5 hQ rfl (congrArg iI (rfl))

set_option maxRecDepth 100000 in
set_option maxHeartbeats 4000000 in
theorem c_X4_floorOf {l : Launch} {D : va_G} {cI cZ cJ : ClassId} (n : Int) (L : Int) (a : Int) (gd : Int) (w : Wt) (W0 W1 : Nat) (k : Int)  : Di l yX4_floorOf wsX4_floorOf 1 [.ref W0, .int (iI k)] D (ty3 cI cZ cJ) (cWa cI n L a gd w W0 W1) (k * L) (cWa cI n L a gd w W0 W1) := by
  refine ct_i (plainFor_of_name (by decide)) rfl (Nat.le_of_ble_eq_true rfl) ?_
  intro p e s mI args below meth c_0 ls A hx hb hr hml hts hown hlocks hin hA hP hK hD hNW hS hl Q hQ
  have hown : s.vm.findClass RX4 = some mI.cls := hown
  have hl : lv_has ls 2 [(0, .ref W0), (1, .int (iI k))] := hl
  have hin_X4 : ∀ w ∈ wsX40, w ∈ wsX4_floorOf := by decide +kernel
  have hf_13 := hts (.fieldLink RX4 13 "LockStaircase$Water" "lift" "I") (by decide +kernel)
  refine lv_iload_n hx hb dX4_floorOf_0 rfl (lv_at hl 1 rfl) ?_
  refine lv_aload_n hx hb dX4_floorOf_1 rfl (lv_at hl 0 rfl) ?_
  refine li_get (ci := 4) (v := .int (iI L)) (C := RX4) (T := TX4) (N := 8) (q0 := 0) (k := 0) hx hb hts hin_X4 hown hK hP rfl rfl (by decide) hf_13 rfl rfl dX4_floorOf_2 ?_
  refine li_mul hx hb dX4_floorOf_5 ?_
  exact li_iret () hx hb hr hlocks hK hP hD hS dX4_floorOf_6 hQ rfl (congrArg iI (rfl))

set_option maxRecDepth 100000 in
set_option maxHeartbeats 4000000 in
theorem c_X4_topOf {l : Launch} {D : va_G} {cI cZ cJ : ClassId} (n : Int) (L : Int) (a : Int) (gd : Int) (w : Wt) (W0 W1 : Nat) (k : Int)  : Di l yX4_topOf wsX4_topOf 1 [.ref W0, .int (iI k)] D (ty3 cI cZ cJ) (cWa cI n L a gd w W0 W1) (k * L + L) (cWa cI n L a gd w W0 W1) := by
  refine ct_i (plainFor_of_name (by decide)) rfl (Nat.le_of_ble_eq_true rfl) ?_
  intro p e s mI args below meth c_0 ls A hx hb hr hml hts hown hlocks hin hA hP hK hD hNW hS hl Q hQ
  have hown : s.vm.findClass RX4 = some mI.cls := hown
  have hl : lv_has ls 2 [(0, .ref W0), (1, .int (iI k))] := hl
  have hin_X4 : ∀ w ∈ wsX40, w ∈ wsX4_topOf := by decide +kernel
  have hf_13 := hts (.fieldLink RX4 13 "LockStaircase$Water" "lift" "I") (by decide +kernel)
  refine lv_iload_n hx hb dX4_topOf_0 rfl (lv_at hl 1 rfl) ?_
  refine li_const hx hb dX4_topOf_1 ?_
  refine li_add hx hb dX4_topOf_2 ?_
  refine lv_aload_n hx hb dX4_topOf_3 rfl (lv_at hl 0 rfl) ?_
  refine li_get (ci := 4) (v := .int (iI L)) (C := RX4) (T := TX4) (N := 8) (q0 := 0) (k := 0) hx hb hts hin_X4 hown hK hP rfl rfl (by decide) hf_13 rfl rfl dX4_topOf_4 ?_
  refine li_mul hx hb dX4_topOf_7 ?_
  exact li_iret () hx hb hr hlocks hK hP hD hS dX4_topOf_8 hQ rfl (congrArg iI (by exact mu_1 k L))

set_option maxRecDepth 100000 in
set_option maxHeartbeats 4000000 in
theorem c_X4_fullPound {l : Launch} {D : va_G} {cI cZ cJ : ClassId} (n : Int) (L : Int) (a : Int) (gd : Int) (w : Wt) (W0 W1 : Nat)  : Di l yX4_fullPound wsX4_fullPound 1 [.ref W0] D (ty3 cI cZ cJ) (cWa cI n L a gd w W0 W1) (20 * a) (cWa cI n L a gd w W0 W1) := by
  refine ct_i (plainFor_of_name (by decide)) rfl (Nat.le_of_ble_eq_true rfl) ?_
  intro p e s mI args below meth c_0 ls A hx hb hr hml hts hown hlocks hin hA hP hK hD hNW hS hl Q hQ
  have hown : s.vm.findClass RX4 = some mI.cls := hown
  have hl : lv_has ls 1 [(0, .ref W0)] := hl
  have hin_X4 : ∀ w ∈ wsX40, w ∈ wsX4_fullPound := by decide +kernel
  have hf_19 := hts (.fieldLink RX4 19 "LockStaircase$Water" "area" "I") (by decide +kernel)
  refine li_bipush hx hb dX4_fullPound_0 (by decide) ?_
  refine lv_aload_n hx hb dX4_fullPound_2 rfl (lv_at hl 0 rfl) ?_
  refine li_get (ci := 4) (v := .int (iI a)) (C := RX4) (T := TX4) (N := 8) (q0 := 0) (k := 1) hx hb hts hin_X4 hown hK hP rfl rfl (by decide) hf_19 rfl rfl dX4_fullPound_3 ?_
  refine li_mul hx hb dX4_fullPound_6 ?_
  exact li_iret () hx hb hr hlocks hK hP hD hS dX4_fullPound_7 hQ rfl (congrArg iI (rfl))

set_option maxRecDepth 100000 in
set_option maxHeartbeats 4000000 in
theorem c_X4_levelAt {l : Launch} {D : va_G} {cI cZ cJ : ClassId} (n : Int) (L : Int) (a : Int) (gd : Int) (w : Wt) (W0 W1 : Nat) (k : Int) (hn : 1 ≤ n ∧ n ≤ 6) (hL : 5 ≤ L ∧ L ≤ 40) (ha : 1 ≤ a ∧ a ≤ 50) (hw : WI n L a w) (hk : -1 ≤ k ∧ k ≤ n) : Di l yX4_levelAt wsX4_levelAt 2 [.ref W0, .int (iI k)] D (ty3 cI cZ cJ) (cWa cI n L a gd w W0 W1) (lvA n L a w k) (cWa cI n L a gd w W0 W1) := by
  refine ct_i (plainFor_of_name (by decide)) rfl (Nat.le_of_ble_eq_true rfl) ?_
  intro p e s mI args below meth c_0 ls A hx hb hr hml hts hown hlocks hin hA hP hK hD hNW hS hl Q hQ
  have hown : s.vm.findClass RX4 = some mI.cls := hown
  have hl : lv_has ls 2 [(0, .ref W0), (1, .int (iI k))] := hl
  have hin_X4 : ∀ w ∈ wsX40, w ∈ wsX4_levelAt := by decide +kernel
  have hf_19 := hts (.fieldLink RX4 19 "LockStaircase$Water" "area" "I") (by decide +kernel)
  have hf_22 := hts (.fieldLink RX4 22 "LockStaircase$Water" "levels" "[I") (by decide +kernel)
  have hf_26 := hts (.fieldLink RX4 26 "LockStaircase$Water" "bed" "I") (by decide +kernel)
  have hf_29 := hts (.fieldLink RX4 29 "LockStaircase$Water" "pound" "I") (by decide +kernel)
  have hw1 : -1000 ≤ w.1 ∧ w.1 ≤ 20 * a := hw.1
  refine lv_iload_n hx hb dX4_levelAt_0 rfl (lv_at hl 1 rfl) ?_
  refine li_if_ge (tgt := 6) hx hb dX4_levelAt_1 (by decide) (ib_i (by omega) (by omega)) (fun c_1 => ?_) (fun c_1 => ?_)
  · refine lv_iload_n hx hb dX4_levelAt_6 rfl (lv_at hl 1 rfl) ?_
    refine lv_aload_n hx hb dX4_levelAt_7 rfl (lv_at hl 0 rfl) ?_
    refine li_get (ci := 4) (v := .ref W1) (C := RX4) (T := TX4) (N := 8) (q0 := 0) (k := 2) hx hb hts hin_X4 hown hK hP rfl rfl (by decide) hf_22 rfl rfl dX4_levelAt_8 ?_
    refine li_alen (q0 := 1) (t0 := 0) (z := n) hx hb hK hP rfl rfl (by omega) dX4_levelAt_11 ?_
    refine li_icmp_ge (tgt := 22) hx hb dX4_levelAt_12 (by decide) (ib_i (by omega) (by omega)) (ib_i (by omega) (by omega)) (fun c_12 => ?_) (fun c_12 => ?_)
    · refine lv_aload_n hx hb dX4_levelAt_22 rfl (lv_at hl 0 rfl) ?_
      refine li_get (ci := 4) (v := .int (iI a)) (C := RX4) (T := TX4) (N := 8) (q0 := 0) (k := 1) hx hb hts hin_X4 hown hK hP rfl rfl (by decide) hf_19 rfl rfl dX4_levelAt_23 ?_
      refine li_const hx hb dX4_levelAt_26 ?_
      refine li_icmp_ge_t (tgt := 37) hx hb dX4_levelAt_27 (by decide) (ib_i (by omega) (by omega)) (by decide) (by omega) ?_
      refine lv_aload_n hx hb dX4_levelAt_37 rfl (lv_at hl 0 rfl) ?_
      refine li_get (ci := 4) (v := .int (iI (n * L - 20))) (C := RX4) (T := TX4) (N := 8) (q0 := 0) (k := 3) hx hb hts hin_X4 hown hK hP rfl rfl (by decide) hf_26 rfl rfl dX4_levelAt_38 ?_
      refine lv_aload_n hx hb dX4_levelAt_41 rfl (lv_at hl 0 rfl) ?_
      refine li_get (ci := 4) (v := .int (iI w.1)) (C := RX4) (T := TX4) (N := 8) (q0 := 0) (k := 4) hx hb hts hin_X4 hown hK hP rfl rfl (by decide) hf_29 rfl rfl dX4_levelAt_42 ?_
      refine lv_aload_n hx hb dX4_levelAt_45 rfl (lv_at hl 0 rfl) ?_
      refine li_get (ci := 4) (v := .int (iI a)) (C := RX4) (T := TX4) (N := 8) (q0 := 0) (k := 1) hx hb hts hin_X4 hown hK hP rfl rfl (by decide) hf_19 rfl rfl dX4_levelAt_46 ?_
      refine cs_i0 (isC := []) (isR := [0, 1]) (isN := [0, 1]) (wr := cWa cI n L a gd w W0 W1) (wn := cWa cI n L a gd w W0 W1) (As := [.int (iI w.1), .int (iI a)]) (rest := [.int (iI (n * L - 20))]) (r := w.1 / a) ⟨hx, hb, hml, hown, hts⟩ (c_J9_floorDiv_7cf53 w.1 a (by first | assumption | omega) (by first | assumption | omega)) (va_cwS 2 hts gX4_levelAt_J9_floorDiv_7cf53 rfl rfl rfl (by decide +kernel) ⟨Nat.le_of_ble_eq_true rfl, Nat.le_of_ble_eq_true rfl⟩) hK hNW hP hD hS hA rfl rfl rfl rfl (by decide) rfl rfl rfl hl.1 rfl (Nat.le_of_ble_eq_true rfl) dX4_levelAt_49 ⟨Nat.zero_le _, Nat.zero_le _⟩ (fun H locs hP hD hS => ?_)
      refine li_add hx hb dX4_levelAt_52 ?_
      exact li_iret () hx hb hr hlocks hK hP hD hS dX4_levelAt_53 hQ rfl (congrArg iI (by unfold lvA; repeat (first | rw [if_pos (by omega)] | rw [if_neg (by omega)])))
    · refine lv_aload_n hx hb dX4_levelAt_15 rfl (lv_at hl 0 rfl) ?_
      refine li_get (ci := 4) (v := .ref W1) (C := RX4) (T := TX4) (N := 8) (q0 := 0) (k := 2) hx hb hts hin_X4 hown hK hP rfl rfl (by decide) hf_22 rfl rfl dX4_levelAt_16 ?_
      refine lv_iload_n hx hb dX4_levelAt_19 rfl (lv_at hl 1 rfl) ?_
      refine li_iald (q0 := 1) (t0 := 0) (g := lvf L w.2.2.2) hx hb hK hP rfl rfl (by omega) (by omega) (ib_i (by omega) (by omega)) dX4_levelAt_20 ?_
      refine li_top (b := k * L + w.2.2.2 k) rfl ?_
      exact li_iret () hx hb hr hlocks hK hP hD hS dX4_levelAt_21 hQ rfl (congrArg iI (by unfold lvA; repeat (first | rw [if_pos (by omega)] | rw [if_neg (by omega)])))
  · refine li_const hx hb dX4_levelAt_4 ?_
    exact li_iret () hx hb hr hlocks hK hP hD hS dX4_levelAt_5 hQ rfl (congrArg iI (by unfold lvA; repeat (first | rw [if_pos (by omega)] | rw [if_neg (by omega)])))

set_option maxRecDepth 100000 in
set_option maxHeartbeats 4000000 in
theorem c_X4_depth {l : Launch} {D : va_G} {cI cZ cJ : ClassId} (n : Int) (L : Int) (a : Int) (gd : Int) (w : Wt) (W0 W1 : Nat) (hn : 1 ≤ n ∧ n ≤ 6) (hL : 5 ≤ L ∧ L ≤ 40) (ha : 1 ≤ a ∧ a ≤ 50) (hw : WI n L a w) : Di l yX4_depth wsX4_depth 3 [.ref W0] D (ty3 cI cZ cJ) (cWa cI n L a gd w W0 W1) (w.1 / a) (cWa cI n L a gd w W0 W1) := by
  refine ct_i (plainFor_of_name (by decide)) rfl (Nat.le_of_ble_eq_true rfl) ?_
  intro p e s mI args below meth c_0 ls A hx hb hr hml hts hown hlocks hin hA hP hK hD hNW hS hl Q hQ
  have hown : s.vm.findClass RX4 = some mI.cls := hown
  have hl : lv_has ls 1 [(0, .ref W0)] := hl
  have hin_X4 : ∀ w ∈ wsX40, w ∈ wsX4_depth := by decide +kernel
  have hf_22 := hts (.fieldLink RX4 22 "LockStaircase$Water" "levels" "[I") (by decide +kernel)
  have hf_26 := hts (.fieldLink RX4 26 "LockStaircase$Water" "bed" "I") (by decide +kernel)
  refine lv_aload_n hx hb dX4_depth_0 rfl (lv_at hl 0 rfl) ?_
  refine lv_aload_n hx hb dX4_depth_1 rfl (lv_at hl 0 rfl) ?_
  refine li_get (ci := 4) (v := .ref W1) (C := RX4) (T := TX4) (N := 8) (q0 := 0) (k := 2) hx hb hts hin_X4 hown hK hP rfl rfl (by decide) hf_22 rfl rfl dX4_depth_2 ?_
  refine li_alen (q0 := 1) (t0 := 0) (z := n) hx hb hK hP rfl rfl (by omega) dX4_depth_5 ?_
  refine cl_i0 (isC := [0, 1]) (isR := []) (isN := [0, 1]) (wr := []) (wn := cWa cI n L a gd w W0 W1) (As := [.int (iI n)]) (rest := []) (r := lvA n L a w n) (ci := 4) (q0 := 0) ⟨hx, hb, hml, hown, hts⟩ (c_X4_levelAt n L a gd w W0 W1 n (by first | assumption | omega) (by first | assumption | omega) (by first | assumption | omega) (by first | assumption | omega) (by first | assumption | omega)) (cwV 1 hts gX4_depth_X4_levelAt rfl rfl rfl (by decide +kernel) ⟨Nat.le_of_ble_eq_true rfl, Nat.le_of_ble_eq_true rfl⟩) hK hNW hP hD hS hA rfl rfl rfl rfl (by decide) rfl rfl rfl rfl rfl rfl hl.1 rfl (Nat.le_of_ble_eq_true rfl) dX4_depth_6 ⟨Nat.zero_le _, Nat.zero_le _⟩ (fun H locs hP hD hS => ?_)
  refine lv_aload_n hx hb dX4_depth_9 rfl (lv_at hl 0 rfl) ?_
  refine li_get (ci := 4) (v := .int (iI (n * L - 20))) (C := RX4) (T := TX4) (N := 8) (q0 := 0) (k := 3) hx hb hts hin_X4 hown hK hP rfl rfl (by decide) hf_26 rfl rfl dX4_depth_10 ?_
  refine li_sub hx hb dX4_depth_13 ?_
  exact li_iret () hx hb hr hlocks hK hP hD hS dX4_depth_14 hQ rfl (congrArg iI (by rw [lvA_n hn]; omega))

set_option maxRecDepth 100000 in
set_option maxHeartbeats 4000000 in
theorem c_X4_headOver {l : Launch} {D : va_G} {cI cZ cJ : ClassId} (n : Int) (L : Int) (a : Int) (gd : Int) (w : Wt) (W0 W1 : Nat) (g : Int) (hn : 1 ≤ n ∧ n ≤ 6) (hL : 5 ≤ L ∧ L ≤ 40) (ha : 1 ≤ a ∧ a ≤ 50) (hw : WI n L a w) (hg : 0 ≤ g ∧ g ≤ n) : Di l yX4_headOver wsX4_headOver 3 [.ref W0, .int (iI g)] D (ty3 cI cZ cJ) (cWa cI n L a gd w W0 W1) (hdA n L a w g) (cWa cI n L a gd w W0 W1) := by
  refine ct_i (plainFor_of_name (by decide)) rfl (Nat.le_of_ble_eq_true rfl) ?_
  intro p e s mI args below meth c_0 ls A hx hb hr hml hts hown hlocks hin hA hP hK hD hNW hS hl Q hQ
  have hown : s.vm.findClass RX4 = some mI.cls := hown
  have hl : lv_has ls 2 [(0, .ref W0), (1, .int (iI g))] := hl
  refine lv_aload_n hx hb dX4_headOver_0 rfl (lv_at hl 0 rfl) ?_
  refine lv_iload_n hx hb dX4_headOver_1 rfl (lv_at hl 1 rfl) ?_
  refine cl_i0 (isC := [0, 1]) (isR := []) (isN := [0, 1]) (wr := []) (wn := cWa cI n L a gd w W0 W1) (As := [.int (iI g)]) (rest := []) (r := lvA n L a w g) (ci := 4) (q0 := 0) ⟨hx, hb, hml, hown, hts⟩ (c_X4_levelAt n L a gd w W0 W1 g (by first | assumption | omega) (by first | assumption | omega) (by first | assumption | omega) (by first | assumption | omega) (by first | assumption | omega)) (cwV 1 hts gX4_headOver_X4_levelAt rfl rfl rfl (by decide +kernel) ⟨Nat.le_of_ble_eq_true rfl, Nat.le_of_ble_eq_true rfl⟩) hK hNW hP hD hS hA rfl rfl rfl rfl (by decide) rfl rfl rfl rfl rfl rfl hl.1 rfl (Nat.le_of_ble_eq_true rfl) dX4_headOver_2 ⟨Nat.zero_le _, Nat.zero_le _⟩ (fun H locs hP hD hS => ?_)
  refine lv_aload_n hx hb dX4_headOver_5 rfl (lv_at hl 0 rfl) ?_
  refine lv_iload_n hx hb dX4_headOver_6 rfl (lv_at hl 1 rfl) ?_
  refine li_const hx hb dX4_headOver_7 ?_
  refine li_sub hx hb dX4_headOver_8 ?_
  refine cl_i0 (isC := [0, 1]) (isR := []) (isN := [0, 1]) (wr := []) (wn := cWa cI n L a gd w W0 W1) (As := [.int (iI (g - 1))]) (rest := [.int (iI (lvA n L a w g))]) (r := lvA n L a w (g - 1)) (ci := 4) (q0 := 0) ⟨hx, hb, hml, hown, hts⟩ (c_X4_levelAt n L a gd w W0 W1 (g - 1) (by first | assumption | omega) (by first | assumption | omega) (by first | assumption | omega) (by first | assumption | omega) (by first | assumption | omega)) (cwV 1 hts gX4_headOver_X4_levelAt rfl rfl rfl (by decide +kernel) ⟨Nat.le_of_ble_eq_true rfl, Nat.le_of_ble_eq_true rfl⟩) hK hNW hP hD hS hA rfl rfl rfl rfl (by decide) rfl rfl rfl rfl rfl rfl hl.1 rfl (Nat.le_of_ble_eq_true rfl) dX4_headOver_9 ⟨Nat.zero_le _, Nat.zero_le _⟩ (fun H locs hP hD hS => ?_)
  refine li_sub hx hb dX4_headOver_12 ?_
  exact li_iret () hx hb hr hlocks hK hP hD hS dX4_headOver_13 hQ rfl (congrArg iI (rfl))

set_option maxRecDepth 100000 in
set_option maxHeartbeats 4000000 in
theorem c_X4_pour {l : Launch} {D : va_G} {cI cZ cJ : ClassId} (n : Int) (L : Int) (a : Int) (gd : Int) (w : Wt) (W0 W1 : Nat) (x : Int) (hn : 1 ≤ n ∧ n ≤ 6) (hL : 5 ≤ L ∧ L ≤ 40) (ha : 1 ≤ a ∧ a ≤ 50) (hw : WI n L a w) (hx1 : 1 ≤ x ∧ x ≤ 999) : Di l yX4_pour wsX4_pour 3 [.ref W0, .int (iI x)] D (ty3 cI cZ cJ) (cWa cI n L a gd w W0 W1) (spA a w.1 x) (cWa cI n L a (gd + (x - spA a w.1 x)) (w.1 + (x - spA a w.1 x), w.2.1, w.2.2.1, w.2.2.2) W0 W1) := by
  refine ct_i (plainFor_of_name (by decide)) rfl (Nat.le_of_ble_eq_true rfl) ?_
  intro p e s mI args below meth c_0 ls A hx hb hr hml hts hown hlocks hin hA hP hK hD hNW hS hl Q hQ
  have hown : s.vm.findClass RX4 = some mI.cls := hown
  have hl : lv_has ls 3 [(0, .ref W0), (1, .int (iI x))] := hl
  have hin_X4 : ∀ w ∈ wsX40, w ∈ wsX4_pour := by decide +kernel
  have hk_max := hts (.code Lib.Math.max.name Lib.Math.max.code 2 (some .int)) (by decide +kernel)
  have hf_29 := hts (.fieldLink RX4 29 "LockStaircase$Water" "pound" "I") (by decide +kernel)
  have hf_47 := hts (.fieldLink RX4 47 "LockStaircase$Water" "gained" "I") (by decide +kernel)
  have hi_Math := hts (.initialized "java/lang/Math") (by decide +kernel)
  have hm_64 := hts (.methodLink RX4 64 Lib.Math.max.name) (by decide +kernel)
  have hs_max := hts (.static Lib.Math.max.name) (by decide +kernel)
  have hw1 : -1000 ≤ w.1 ∧ w.1 ≤ 20 * a := hw.1
  refine li_const hx hb dX4_pour_0 ?_
  refine lv_aload_n hx hb dX4_pour_1 rfl (lv_at hl 0 rfl) ?_
  refine li_get (ci := 4) (v := .int (iI w.1)) (C := RX4) (T := TX4) (N := 8) (q0 := 0) (k := 4) hx hb hts hin_X4 hown hK hP rfl rfl (by decide) hf_29 rfl rfl dX4_pour_2 ?_
  refine lv_iload_n hx hb dX4_pour_5 rfl (lv_at hl 1 rfl) ?_
  refine li_add hx hb dX4_pour_6 ?_
  refine lv_aload_n hx hb dX4_pour_7 rfl (lv_at hl 0 rfl) ?_
  refine cl_i0 (isC := [0, 1]) (isR := []) (isN := [0, 1]) (wr := []) (wn := cWa cI n L a gd w W0 W1) (As := []) (rest := [.int (iI (w.1 + x)), .int (iI 0)]) (r := 20 * a) (ci := 4) (q0 := 0) ⟨hx, hb, hml, hown, hts⟩ (c_X4_fullPound n L a gd w W0 W1 ) (cwV 0 hts gX4_pour_X4_fullPound rfl rfl rfl (by decide +kernel) ⟨Nat.le_of_ble_eq_true rfl, Nat.le_of_ble_eq_true rfl⟩) hK hNW hP hD hS hA rfl rfl rfl rfl (by decide) rfl rfl rfl rfl rfl rfl hl.1 rfl (Nat.le_of_ble_eq_true rfl) dX4_pour_8 ⟨Nat.zero_le _, Nat.zero_le _⟩ (fun H locs hP hD hS => ?_)
  refine li_sub hx hb dX4_pour_11 ?_
  refine li_max hx hb (hml.trans hl.1.symm) hown hm_64 hs_max hi_Math hk_max (Nat.le_of_ble_eq_true rfl) (Nat.le_of_ble_eq_true rfl) (Nat.zero_le _) (Nat.zero_le _) (by decide) (ib_i (by omega) (by omega)) dX4_pour_12 ?_
  refine lv_istore_n (lv' := [(2, .int (iI (if 0 < (w.1 + x) - (20 * a) then (w.1 + x) - (20 * a) else 0))), (0, .ref W0), (1, .int (iI x))]) hx hb dX4_pour_15 rfl hl (by decide) rfl (fun ls hl => ?_)
  refine lv_aload_n hx hb dX4_pour_16 rfl (lv_at hl 1 rfl) ?_
  refine lv_dup hx hb dX4_pour_17 rfl ?_
  refine li_get (ci := 4) (v := .int (iI w.1)) (C := RX4) (T := TX4) (N := 8) (q0 := 0) (k := 4) hx hb hts hin_X4 hown hK hP rfl rfl (by decide) hf_29 rfl rfl dX4_pour_18 ?_
  refine lv_iload_n hx hb dX4_pour_21 rfl (lv_at hl 2 rfl) ?_
  refine lv_iload_n hx hb dX4_pour_22 rfl (lv_at hl 0 rfl) ?_
  refine li_sub hx hb dX4_pour_23 ?_
  refine li_add hx hb dX4_pour_24 ?_
  refine li_put (ci := 4) (v := .int (iI (w.1 + (x - (if 0 < (w.1 + x) - (20 * a) then (w.1 + x) - (20 * a) else 0))))) (ty := .int) (C := RX4) (T := TX4) (N := 8) (q0 := 0) (k := 4) (w2 := cWa cI n L a gd (w.1 + (x - (if 0 < (w.1 + x) - (20 * a) then (w.1 + x) - (20 * a) else 0)), w.2.1, w.2.2.1, w.2.2.2) W0 W1) hx hb hts hin_X4 tyX4_ok nmX4 hown hK hP hD hS rfl rfl (by decide) hf_29 rfl rfl (by decide +kernel) rfl rfl (Nat.le_of_ble_eq_true rfl) dX4_pour_25 rfl (fun H locs hP hD hS => ?_)
  refine lv_aload_n hx hb dX4_pour_28 rfl (lv_at hl 1 rfl) ?_
  refine lv_dup hx hb dX4_pour_29 rfl ?_
  refine li_get (ci := 4) (v := .int (iI gd)) (C := RX4) (T := TX4) (N := 8) (q0 := 0) (k := 6) hx hb hts hin_X4 hown hK hP rfl rfl (by decide) hf_47 rfl rfl dX4_pour_30 ?_
  refine lv_iload_n hx hb dX4_pour_33 rfl (lv_at hl 2 rfl) ?_
  refine lv_iload_n hx hb dX4_pour_34 rfl (lv_at hl 0 rfl) ?_
  refine li_sub hx hb dX4_pour_35 ?_
  refine li_add hx hb dX4_pour_36 ?_
  refine li_put (ci := 4) (v := .int (iI (gd + (x - (if 0 < (w.1 + x) - (20 * a) then (w.1 + x) - (20 * a) else 0))))) (ty := .int) (C := RX4) (T := TX4) (N := 8) (q0 := 0) (k := 6) (w2 := cWa cI n L a (gd + (x - (if 0 < (w.1 + x) - (20 * a) then (w.1 + x) - (20 * a) else 0))) (w.1 + (x - (if 0 < (w.1 + x) - (20 * a) then (w.1 + x) - (20 * a) else 0)), w.2.1, w.2.2.1, w.2.2.2) W0 W1) hx hb hts hin_X4 tyX4_ok nmX4 hown hK hP hD hS rfl rfl (by decide) hf_47 rfl rfl (by decide +kernel) rfl rfl (Nat.le_of_ble_eq_true rfl) dX4_pour_37 rfl (fun H locs hP hD hS => ?_)
  refine lv_iload_n hx hb dX4_pour_40 rfl (lv_at hl 0 rfl) ?_
  exact li_iret () hx hb hr hlocks hK hP hD hS dX4_pour_41 hQ rfl (congrArg iI (rfl))

set_option maxRecDepth 100000 in
set_option maxHeartbeats 4000000 in
theorem c_X4_change {l : Launch} {D : va_G} {cI cZ cJ : ClassId} (n : Int) (L : Int) (a : Int) (gd : Int) (w : Wt) (W0 W1 : Nat) (x : Int) (k : Int) (hn : 1 ≤ n ∧ n ≤ 6) (hL : 5 ≤ L ∧ L ≤ 40) (ha : 1 ≤ a ∧ a ≤ 50) (hx1 : -1 ≤ x ∧ x ≤ n) : Dv l yX4_change wsX4_change 2 [.ref W0, .int (iI x), .int (iI k)] D (ty3 cI cZ cJ) (cWa cI n L a gd w W0 W1) (cWa cI n L a gd (chW n x k w) W0 W1) := by
  refine ct_v (plainFor_of_name (by decide)) rfl (Nat.le_of_ble_eq_true rfl) ?_
  intro p e s mI args below meth c_0 ls A hx hb hr hml hts hown hlocks hin hA hP hK hD hNW hS hl Q hQ
  have hown : s.vm.findClass RX4 = some mI.cls := hown
  have hl : lv_has ls 3 [(0, .ref W0), (1, .int (iI x)), (2, .int (iI k))] := hl
  have hin_X4 : ∀ w ∈ wsX40, w ∈ wsX4_change := by decide +kernel
  have hf_22 := hts (.fieldLink RX4 22 "LockStaircase$Water" "levels" "[I") (by decide +kernel)
  have hf_29 := hts (.fieldLink RX4 29 "LockStaircase$Water" "pound" "I") (by decide +kernel)
  have hf_44 := hts (.fieldLink RX4 44 "LockStaircase$Water" "lost" "I") (by decide +kernel)
  refine lv_iload_n hx hb dX4_change_0 rfl (lv_at hl 1 rfl) ?_
  refine li_if_ge (tgt := 17) hx hb dX4_change_1 (by decide) (ib_i (by omega) (by omega)) (fun c_1 => ?_) (fun c_1 => ?_)
  · refine lv_iload_n hx hb dX4_change_17 rfl (lv_at hl 1 rfl) ?_
    refine lv_aload_n hx hb dX4_change_18 rfl (lv_at hl 0 rfl) ?_
    refine li_get (ci := 4) (v := .ref W1) (C := RX4) (T := TX4) (N := 8) (q0 := 0) (k := 2) hx hb hts hin_X4 hown hK hP rfl rfl (by decide) hf_22 rfl rfl dX4_change_19 ?_
    refine li_alen (q0 := 1) (t0 := 0) (z := n) hx hb hK hP rfl rfl (by omega) dX4_change_22 ?_
    refine li_icmp_ge (tgt := 39) hx hb dX4_change_23 (by decide) (ib_i (by omega) (by omega)) (ib_i (by omega) (by omega)) (fun c_23 => ?_) (fun c_23 => ?_)
    · refine lv_aload_n hx hb dX4_change_39 rfl (lv_at hl 0 rfl) ?_
      refine lv_dup hx hb dX4_change_40 rfl ?_
      refine li_get (ci := 4) (v := .int (iI w.1)) (C := RX4) (T := TX4) (N := 8) (q0 := 0) (k := 4) hx hb hts hin_X4 hown hK hP rfl rfl (by decide) hf_29 rfl rfl dX4_change_41 ?_
      refine lv_iload_n hx hb dX4_change_44 rfl (lv_at hl 2 rfl) ?_
      refine li_add hx hb dX4_change_45 ?_
      refine li_put (ci := 4) (v := .int (iI (w.1 + k))) (ty := .int) (C := RX4) (T := TX4) (N := 8) (q0 := 0) (k := 4) (w2 := cWa cI n L a gd (w.1 + k, w.2.1, w.2.2.1, w.2.2.2) W0 W1) hx hb hts hin_X4 tyX4_ok nmX4 hown hK hP hD hS rfl rfl (by decide) hf_29 rfl rfl (by decide +kernel) rfl rfl (Nat.le_of_ble_eq_true rfl) dX4_change_46 rfl (fun H locs hP hD hS => ?_)
      exact li_vret () hx hb hr hlocks hK hP hD hS dX4_change_49 hQ (by unfold chW; repeat (first | rw [if_pos (by omega)] | rw [if_neg (by omega)])) trivial
    · refine lv_aload_n hx hb dX4_change_26 rfl (lv_at hl 0 rfl) ?_
      refine li_get (ci := 4) (v := .ref W1) (C := RX4) (T := TX4) (N := 8) (q0 := 0) (k := 2) hx hb hts hin_X4 hown hK hP rfl rfl (by decide) hf_22 rfl rfl dX4_change_27 ?_
      refine lv_iload_n hx hb dX4_change_30 rfl (lv_at hl 1 rfl) ?_
      refine lv_dup2_11 hx hb dX4_change_31 rfl rfl ?_
      refine li_iald (q0 := 1) (t0 := 0) (g := lvf L w.2.2.2) hx hb hK hP rfl rfl (by omega) (by omega) (ib_i (by omega) (by omega)) dX4_change_32 ?_
      refine li_top (b := x * L + w.2.2.2 x) rfl ?_
      refine lv_iload_n hx hb dX4_change_33 rfl (lv_at hl 2 rfl) ?_
      refine li_add hx hb dX4_change_34 ?_
      refine li_iast (q0 := 1) (t0 := 0) (g := lvf L w.2.2.2) (w2 := cWa cI n L a gd (w.1, w.2.1, w.2.2.1, upZ w.2.2.2 x (w.2.2.2 x + k)) W0 W1) hx hb hK hP hD hS rfl rfl (by omega) (by omega) (ib_i (by omega) (by omega)) dX4_change_35 (by rw [lvf_up] <;> rfl) (fun H locs hP hD hS => ?_)
      refine lv_goto (tgt := 49) hx hb dX4_change_36 (by decide) ?_
      exact li_vret () hx hb hr hlocks hK hP hD hS dX4_change_49 hQ (by unfold chW; repeat (first | rw [if_pos (by omega)] | rw [if_neg (by omega)])) trivial
  · refine lv_aload_n hx hb dX4_change_4 rfl (lv_at hl 0 rfl) ?_
    refine lv_dup hx hb dX4_change_5 rfl ?_
    refine li_get (ci := 4) (v := .int (iI w.2.1)) (C := RX4) (T := TX4) (N := 8) (q0 := 0) (k := 5) hx hb hts hin_X4 hown hK hP rfl rfl (by decide) hf_44 rfl rfl dX4_change_6 ?_
    refine lv_iload_n hx hb dX4_change_9 rfl (lv_at hl 2 rfl) ?_
    refine li_add hx hb dX4_change_10 ?_
    refine li_put (ci := 4) (v := .int (iI (w.2.1 + k))) (ty := .int) (C := RX4) (T := TX4) (N := 8) (q0 := 0) (k := 5) (w2 := cWa cI n L a gd (w.1, w.2.1 + k, w.2.2.1, w.2.2.2) W0 W1) hx hb hts hin_X4 tyX4_ok nmX4 hown hK hP hD hS rfl rfl (by decide) hf_44 rfl rfl (by decide +kernel) rfl rfl (Nat.le_of_ble_eq_true rfl) dX4_change_11 rfl (fun H locs hP hD hS => ?_)
    refine lv_goto (tgt := 49) hx hb dX4_change_14 (by decide) ?_
    exact li_vret () hx hb hr hlocks hK hP hD hS dX4_change_49 hQ (by unfold chW; repeat (first | rw [if_pos (by omega)] | rw [if_neg (by omega)])) trivial

set_option maxRecDepth 100000 in
set_option maxHeartbeats 4000000 in
theorem c_X4_flow {l : Launch} {D : va_G} {cI cZ cJ : ClassId} (n : Int) (L : Int) (a : Int) (gd : Int) (w : Wt) (W0 W1 : Nat) (g : Int) (m : Int) (hn : 1 ≤ n ∧ n ≤ 6) (hL : 5 ≤ L ∧ L ≤ 40) (ha : 1 ≤ a ∧ a ≤ 50) (hw : WI n L a w) (hg : 0 ≤ g ∧ g ≤ n) (hm : 0 ≤ m ∧ m ≤ 1000) : Di l yX4_flow wsX4_flow 4 [.ref W0, .int (iI g), .int (iI m)] D (ty3 cI cZ cJ) (cWa cI n L a gd w W0 W1) ((flW n L a g m.toNat w).1) (cWa cI n L a gd ((flW n L a g m.toNat w).2) W0 W1) := by
  refine ct_i (plainFor_of_name (by decide)) rfl (Nat.le_of_ble_eq_true rfl) ?_
  intro p e s mI args below meth c_0 ls A hx hb hr hml hts hown hlocks hin hA hP hK hD hNW hS hl Q hQ
  have hown : s.vm.findClass RX4 = some mI.cls := hown
  have hl : lv_has ls 5 [(0, .ref W0), (1, .int (iI g)), (2, .int (iI m))] := hl
  have hin_X4 : ∀ w ∈ wsX40, w ∈ wsX4_flow := by decide +kernel
  have hf_22 := hts (.fieldLink RX4 22 "LockStaircase$Water" "levels" "[I") (by decide +kernel)
  refine li_const hx hb dX4_flow_0 ?_
  refine lv_istore_n (lv' := [(3, .int (iI 0)), (0, .ref W0), (1, .int (iI g)), (2, .int (iI m))]) hx hb dX4_flow_1 rfl hl (by decide) rfl (fun ls hl => ?_)
  have loop_2 : ∀ (N : Nat) (i : Int) (w2 : Wt), (0 ≤ i ∧ i ≤ m) → (WI n L a w2) → (i + (flW n L a g (m - i).toNat w2).1 = (flW n L a g m.toNat w).1) → ((flW n L a g (m - i).toNat w2).2 = (flW n L a g m.toNat w).2) → m - i < (N : Int) → ∀ (H : Heap) (locs : List Loc), va_P D vwCl (cWa cI n L a gd w2 W0 W1) H → va_D A (cWa cI n L a gd w2 W0 W1) → va_S A s.heap H locs → ∀ (ls : Array Slot), lv_has ls 5 [(3, .int (iI i)), (0, .ref W0), (1, .int (iI g)), (2, .int (iI m))] → W p l e (rK 4 0 0) s mI args below meth c_0 H locs 0 0 Q (F0 mI 2 ls []) := by
    intro N
    induction N with
    | zero =>
      intro i w2 hi hw2 hq1 hq2 hN
      exact absurd hN (by omega)
    | succ N ih =>
      intro i w2 hi hw2 hq1 hq2 hN H locs hP hD hS ls hl
      have b1 := lvA_b hn hL ha hw2 g (by omega)
      have b2 := lvA_b hn hL ha hw2 (g - 1) (by omega)
      have m1 := mu_b (g := g) (by omega) (by omega) hL
      have m2 := mu_m g L
      refine lv_iload_n hx hb dX4_flow_2 rfl (lv_at hl 0 rfl) ?_
      refine lv_iload_n hx hb dX4_flow_3 rfl (lv_at hl 3 rfl) ?_
      refine li_icmp_ge (tgt := 107) hx hb dX4_flow_4 (by decide) (ib_i (by omega) (by omega)) (ib_i (by omega) (by omega)) (fun c_4 => ?_) (fun c_4 => ?_)
      · refine lv_iload_n hx hb dX4_flow_107 rfl (lv_at hl 3 rfl) ?_
        exact li_iret () hx hb hr hlocks hK hP hD hS dX4_flow_108 hQ (by rw [← hq2, show (m - i).toNat = 0 by omega]; rfl) (congrArg iI (by rw [← hq1, show (m - i).toNat = 0 by omega]; show m = i + 0; omega))
      · refine lv_iload_n hx hb dX4_flow_7 rfl (lv_at hl 2 rfl) ?_
        refine lv_aload_n hx hb dX4_flow_8 rfl (lv_at hl 1 rfl) ?_
        refine li_get (ci := 4) (v := .ref W1) (C := RX4) (T := TX4) (N := 8) (q0 := 0) (k := 2) hx hb hts hin_X4 hown hK hP rfl rfl (by decide) hf_22 rfl rfl dX4_flow_9 ?_
        refine li_alen (q0 := 1) (t0 := 0) (z := n) hx hb hK hP rfl rfl (by omega) dX4_flow_12 ?_
        refine li_icmp_ge (tgt := 58) hx hb dX4_flow_13 (by decide) (ib_i (by omega) (by omega)) (ib_i (by omega) (by omega)) (fun c_13 => ?_) (fun c_13 => ?_)
        · refine lv_aload_n hx hb dX4_flow_58 rfl (lv_at hl 1 rfl) ?_
          refine lv_iload_n hx hb dX4_flow_59 rfl (lv_at hl 2 rfl) ?_
          refine cl_i0 (isC := [0, 1]) (isR := []) (isN := [0, 1]) (wr := []) (wn := cWa cI n L a gd w2 W0 W1) (As := [.int (iI g)]) (rest := []) (r := lvA n L a w2 g) (ci := 4) (q0 := 0) ⟨hx, hb, hml, hown, hts⟩ (c_X4_levelAt n L a gd w2 W0 W1 g (by first | assumption | omega) (by first | assumption | omega) (by first | assumption | omega) (by first | assumption | omega) (by first | assumption | omega)) (cwV 1 hts gX4_flow_X4_levelAt rfl rfl rfl (by decide +kernel) ⟨Nat.le_of_ble_eq_true rfl, Nat.le_of_ble_eq_true rfl⟩) hK hNW hP hD hS hA rfl rfl rfl rfl (by decide) rfl rfl rfl rfl rfl rfl hl.1 rfl (Nat.le_of_ble_eq_true rfl) dX4_flow_60 ⟨Nat.zero_le _, Nat.zero_le _⟩ (fun H locs hP hD hS => ?_)
          refine lv_aload_n hx hb dX4_flow_63 rfl (lv_at hl 1 rfl) ?_
          refine lv_iload_n hx hb dX4_flow_64 rfl (lv_at hl 2 rfl) ?_
          refine li_const hx hb dX4_flow_65 ?_
          refine li_sub hx hb dX4_flow_66 ?_
          refine cl_i0 (isC := [0, 1]) (isR := []) (isN := [0, 1]) (wr := []) (wn := cWa cI n L a gd w2 W0 W1) (As := [.int (iI (g - 1))]) (rest := [.int (iI (lvA n L a w2 g))]) (r := lvA n L a w2 (g - 1)) (ci := 4) (q0 := 0) ⟨hx, hb, hml, hown, hts⟩ (c_X4_levelAt n L a gd w2 W0 W1 (g - 1) (by first | assumption | omega) (by first | assumption | omega) (by first | assumption | omega) (by first | assumption | omega) (by first | assumption | omega)) (cwV 1 hts gX4_flow_X4_levelAt rfl rfl rfl (by decide +kernel) ⟨Nat.le_of_ble_eq_true rfl, Nat.le_of_ble_eq_true rfl⟩) hK hNW hP hD hS hA rfl rfl rfl rfl (by decide) rfl rfl rfl rfl rfl rfl hl.1 rfl (Nat.le_of_ble_eq_true rfl) dX4_flow_67 ⟨Nat.zero_le _, Nat.zero_le _⟩ (fun H locs hP hD hS => ?_)
          refine li_icmp_le (tgt := 77) hx hb dX4_flow_70 (by decide) (ib_i (by omega) (by omega)) (ib_i (by omega) (by omega)) (fun c_70 => ?_) (fun c_70 => ?_)
          · refine li_const hx hb dX4_flow_77 ?_
            refine lv_istore (lv' := [(4, .int (iI 0)), (3, .int (iI i)), (0, .ref W0), (1, .int (iI g)), (2, .int (iI m))]) hx hb dX4_flow_78 hl (by decide) rfl (fun ls hl => ?_)
            refine lv_iload hx hb dX4_flow_80 (lv_at hl 0 rfl) ?_
            refine li_if_ne_f (tgt := 87) hx hb dX4_flow_82 (by decide) (by decide) (by decide) ?_
            have hcan : canW n L a g w2 = false := by
              cases hq : canW n L a g w2 with | false => rfl | true => (unfold canW at hq; exfalso; first | (rw [if_pos (by omega)] at hq; simp only [Bool.and_eq_true, Bool.or_eq_true, decide_eq_true_eq] at hq; omega) | (rw [if_neg (by omega)] at hq; simp only [decide_eq_true_eq] at hq; omega))
            refine lv_iload_n hx hb dX4_flow_85 rfl (lv_at hl 1 rfl) ?_
            exact li_iret () hx hb hr hlocks hK hP hD hS dX4_flow_86 hQ (by rw [← hq2, flW_f _ hcan]) (congrArg iI (by rw [← hq1, flW_f _ hcan]; show i = i + 0; omega))
          · refine li_const hx hb dX4_flow_73 ?_
            refine lv_goto (tgt := 78) hx hb dX4_flow_74 (by decide) ?_
            refine lv_istore (lv' := [(4, .int (iI 1)), (3, .int (iI i)), (0, .ref W0), (1, .int (iI g)), (2, .int (iI m))]) hx hb dX4_flow_78 hl (by decide) rfl (fun ls hl => ?_)
            refine lv_iload hx hb dX4_flow_80 (lv_at hl 0 rfl) ?_
            refine li_if_ne_t (tgt := 87) hx hb dX4_flow_82 (by decide) (by decide) (by decide) ?_
            have hcan : canW n L a g w2 = true := by
              unfold canW; first | (rw [if_pos (by omega)]; simp only [Bool.and_eq_true, Bool.or_eq_true, decide_eq_true_eq]; omega) | (rw [if_neg (by omega)]; simp only [decide_eq_true_eq]; omega)
            refine lv_aload_n hx hb dX4_flow_87 rfl (lv_at hl 2 rfl) ?_
            refine lv_iload_n hx hb dX4_flow_88 rfl (lv_at hl 3 rfl) ?_
            refine li_const hx hb dX4_flow_89 ?_
            refine cl_v0 (isC := [0, 1]) (isR := []) (isN := [0, 1]) (wr := []) (wn := cWa cI n L a gd (chW n g (-1) w2) W0 W1) (As := [.int (iI g), .int (iI (-1))]) (rest := []) (ci := 4) (q0 := 0) ⟨hx, hb, hml, hown, hts⟩ (c_X4_change n L a gd w2 W0 W1 g (-1) (by first | assumption | omega) (by first | assumption | omega) (by first | assumption | omega) (by first | assumption | omega)) (cwV 2 hts gX4_flow_X4_change rfl rfl rfl (by decide +kernel) ⟨Nat.le_of_ble_eq_true rfl, Nat.le_of_ble_eq_true rfl⟩) hK hNW hP hD hS hA rfl rfl rfl rfl (by decide) rfl rfl rfl rfl rfl rfl hl.1 rfl (Nat.le_of_ble_eq_true rfl) dX4_flow_90 ⟨Nat.zero_le _, Nat.zero_le _⟩ (fun H locs hP hD hS => ?_)
            refine lv_aload_n hx hb dX4_flow_93 rfl (lv_at hl 2 rfl) ?_
            refine lv_iload_n hx hb dX4_flow_94 rfl (lv_at hl 3 rfl) ?_
            refine li_const hx hb dX4_flow_95 ?_
            refine li_sub hx hb dX4_flow_96 ?_
            refine li_const hx hb dX4_flow_97 ?_
            refine cl_v0 (isC := [0, 1]) (isR := []) (isN := [0, 1]) (wr := []) (wn := cWa cI n L a gd (chW n (g - 1) 1 (chW n g (-1) w2)) W0 W1) (As := [.int (iI (g - 1)), .int (iI 1)]) (rest := []) (ci := 4) (q0 := 0) ⟨hx, hb, hml, hown, hts⟩ (c_X4_change n L a gd (chW n g (-1) w2) W0 W1 (g - 1) 1 (by first | assumption | omega) (by first | assumption | omega) (by first | assumption | omega) (by first | assumption | omega)) (cwV 2 hts gX4_flow_X4_change rfl rfl rfl (by decide +kernel) ⟨Nat.le_of_ble_eq_true rfl, Nat.le_of_ble_eq_true rfl⟩) hK hNW hP hD hS hA rfl rfl rfl rfl (by decide) rfl rfl rfl rfl rfl rfl hl.1 rfl (Nat.le_of_ble_eq_true rfl) dX4_flow_98 ⟨Nat.zero_le _, Nat.zero_le _⟩ (fun H locs hP hD hS => ?_)
            refine li_inc (j := 1) (lv' := [(3, .int (iI (i + 1))), (4, .int (iI 1)), (0, .ref W0), (1, .int (iI g)), (2, .int (iI m))]) hx hb dX4_flow_101 hl rfl (by decide) rfl (fun ls hl => ?_)
            refine lv_goto (tgt := 2) hx hb dX4_flow_104 (by decide) ?_
            have he9 : (m - i).toNat = (m - (i + 1)).toNat + 1 := by omega
            exact ih (i + 1) (chW n (g - 1) 1 (chW n g (-1) w2)) (by omega) (by exact mvW_WI hn hL ha hg hw2 hcan) (by rw [he9, flW_t _ hcan] at hq1; rw [← hq1]; show i + 1 + (flW n L a g (m - (i + 1)).toNat (mvW n g 1 w2)).1 = i + ((flW n L a g (m - (i + 1)).toNat (mvW n g 1 w2)).1 + 1); omega) (by rw [he9, flW_t _ hcan] at hq2; exact hq2) (by omega) _ _ hP hD hS _ (lv_sub hl [0, 2, 3, 4] rfl)
        · refine lv_aload_n hx hb dX4_flow_16 rfl (lv_at hl 1 rfl) ?_
          refine lv_iload_n hx hb dX4_flow_17 rfl (lv_at hl 2 rfl) ?_
          refine cl_i0 (isC := [0, 1]) (isR := []) (isN := [0, 1]) (wr := []) (wn := cWa cI n L a gd w2 W0 W1) (As := [.int (iI g)]) (rest := []) (r := lvA n L a w2 g) (ci := 4) (q0 := 0) ⟨hx, hb, hml, hown, hts⟩ (c_X4_levelAt n L a gd w2 W0 W1 g (by first | assumption | omega) (by first | assumption | omega) (by first | assumption | omega) (by first | assumption | omega) (by first | assumption | omega)) (cwV 1 hts gX4_flow_X4_levelAt rfl rfl rfl (by decide +kernel) ⟨Nat.le_of_ble_eq_true rfl, Nat.le_of_ble_eq_true rfl⟩) hK hNW hP hD hS hA rfl rfl rfl rfl (by decide) rfl rfl rfl rfl rfl rfl hl.1 rfl (Nat.le_of_ble_eq_true rfl) dX4_flow_18 ⟨Nat.zero_le _, Nat.zero_le _⟩ (fun H locs hP hD hS => ?_)
          refine lv_aload_n hx hb dX4_flow_21 rfl (lv_at hl 1 rfl) ?_
          refine lv_iload_n hx hb dX4_flow_22 rfl (lv_at hl 2 rfl) ?_
          refine cl_i0 (isC := [0, 1]) (isR := []) (isN := [0, 1]) (wr := []) (wn := cWa cI n L a gd w2 W0 W1) (As := [.int (iI g)]) (rest := [.int (iI (lvA n L a w2 g))]) (r := g * L) (ci := 4) (q0 := 0) ⟨hx, hb, hml, hown, hts⟩ (c_X4_floorOf n L a gd w2 W0 W1 g ) (cwV 1 hts gX4_flow_X4_floorOf rfl rfl rfl (by decide +kernel) ⟨Nat.le_of_ble_eq_true rfl, Nat.le_of_ble_eq_true rfl⟩) hK hNW hP hD hS hA rfl rfl rfl rfl (by decide) rfl rfl rfl rfl rfl rfl hl.1 rfl (Nat.le_of_ble_eq_true rfl) dX4_flow_23 ⟨Nat.zero_le _, Nat.zero_le _⟩ (fun H locs hP hD hS => ?_)
          refine li_icmp_le (tgt := 54) hx hb dX4_flow_26 (by decide) (ib_i (by omega) (by omega)) (ib_i (by omega) (by omega)) (fun c_26 => ?_) (fun c_26 => ?_)
          · refine li_const hx hb dX4_flow_54 ?_
            refine lv_goto (tgt := 78) hx hb dX4_flow_55 (by decide) ?_
            refine lv_istore (lv' := [(4, .int (iI 0)), (3, .int (iI i)), (0, .ref W0), (1, .int (iI g)), (2, .int (iI m))]) hx hb dX4_flow_78 hl (by decide) rfl (fun ls hl => ?_)
            refine lv_iload hx hb dX4_flow_80 (lv_at hl 0 rfl) ?_
            refine li_if_ne_f (tgt := 87) hx hb dX4_flow_82 (by decide) (by decide) (by decide) ?_
            have hcan : canW n L a g w2 = false := by
              cases hq : canW n L a g w2 with | false => rfl | true => (unfold canW at hq; exfalso; first | (rw [if_pos (by omega)] at hq; simp only [Bool.and_eq_true, Bool.or_eq_true, decide_eq_true_eq] at hq; omega) | (rw [if_neg (by omega)] at hq; simp only [decide_eq_true_eq] at hq; omega))
            refine lv_iload_n hx hb dX4_flow_85 rfl (lv_at hl 1 rfl) ?_
            exact li_iret () hx hb hr hlocks hK hP hD hS dX4_flow_86 hQ (by rw [← hq2, flW_f _ hcan]) (congrArg iI (by rw [← hq1, flW_f _ hcan]; show i = i + 0; omega))
          · refine lv_iload_n hx hb dX4_flow_29 rfl (lv_at hl 2 rfl) ?_
            refine li_if_eq (tgt := 50) hx hb dX4_flow_30 (by decide) (ib_i (by omega) (by omega)) (fun c_30 => ?_) (fun c_30 => ?_)
            · refine li_const hx hb dX4_flow_50 ?_
              refine lv_goto (tgt := 78) hx hb dX4_flow_51 (by decide) ?_
              refine lv_istore (lv' := [(4, .int (iI 1)), (3, .int (iI i)), (0, .ref W0), (1, .int (iI g)), (2, .int (iI m))]) hx hb dX4_flow_78 hl (by decide) rfl (fun ls hl => ?_)
              refine lv_iload hx hb dX4_flow_80 (lv_at hl 0 rfl) ?_
              refine li_if_ne_t (tgt := 87) hx hb dX4_flow_82 (by decide) (by decide) (by decide) ?_
              have hcan : canW n L a g w2 = true := by
                unfold canW; first | (rw [if_pos (by omega)]; simp only [Bool.and_eq_true, Bool.or_eq_true, decide_eq_true_eq]; omega) | (rw [if_neg (by omega)]; simp only [decide_eq_true_eq]; omega)
              refine lv_aload_n hx hb dX4_flow_87 rfl (lv_at hl 2 rfl) ?_
              refine lv_iload_n hx hb dX4_flow_88 rfl (lv_at hl 3 rfl) ?_
              refine li_const hx hb dX4_flow_89 ?_
              refine cl_v0 (isC := [0, 1]) (isR := []) (isN := [0, 1]) (wr := []) (wn := cWa cI n L a gd (chW n g (-1) w2) W0 W1) (As := [.int (iI g), .int (iI (-1))]) (rest := []) (ci := 4) (q0 := 0) ⟨hx, hb, hml, hown, hts⟩ (c_X4_change n L a gd w2 W0 W1 g (-1) (by first | assumption | omega) (by first | assumption | omega) (by first | assumption | omega) (by first | assumption | omega)) (cwV 2 hts gX4_flow_X4_change rfl rfl rfl (by decide +kernel) ⟨Nat.le_of_ble_eq_true rfl, Nat.le_of_ble_eq_true rfl⟩) hK hNW hP hD hS hA rfl rfl rfl rfl (by decide) rfl rfl rfl rfl rfl rfl hl.1 rfl (Nat.le_of_ble_eq_true rfl) dX4_flow_90 ⟨Nat.zero_le _, Nat.zero_le _⟩ (fun H locs hP hD hS => ?_)
              refine lv_aload_n hx hb dX4_flow_93 rfl (lv_at hl 2 rfl) ?_
              refine lv_iload_n hx hb dX4_flow_94 rfl (lv_at hl 3 rfl) ?_
              refine li_const hx hb dX4_flow_95 ?_
              refine li_sub hx hb dX4_flow_96 ?_
              refine li_const hx hb dX4_flow_97 ?_
              refine cl_v0 (isC := [0, 1]) (isR := []) (isN := [0, 1]) (wr := []) (wn := cWa cI n L a gd (chW n (g - 1) 1 (chW n g (-1) w2)) W0 W1) (As := [.int (iI (g - 1)), .int (iI 1)]) (rest := []) (ci := 4) (q0 := 0) ⟨hx, hb, hml, hown, hts⟩ (c_X4_change n L a gd (chW n g (-1) w2) W0 W1 (g - 1) 1 (by first | assumption | omega) (by first | assumption | omega) (by first | assumption | omega) (by first | assumption | omega)) (cwV 2 hts gX4_flow_X4_change rfl rfl rfl (by decide +kernel) ⟨Nat.le_of_ble_eq_true rfl, Nat.le_of_ble_eq_true rfl⟩) hK hNW hP hD hS hA rfl rfl rfl rfl (by decide) rfl rfl rfl rfl rfl rfl hl.1 rfl (Nat.le_of_ble_eq_true rfl) dX4_flow_98 ⟨Nat.zero_le _, Nat.zero_le _⟩ (fun H locs hP hD hS => ?_)
              refine li_inc (j := 1) (lv' := [(3, .int (iI (i + 1))), (4, .int (iI 1)), (0, .ref W0), (1, .int (iI g)), (2, .int (iI m))]) hx hb dX4_flow_101 hl rfl (by decide) rfl (fun ls hl => ?_)
              refine lv_goto (tgt := 2) hx hb dX4_flow_104 (by decide) ?_
              have he9 : (m - i).toNat = (m - (i + 1)).toNat + 1 := by omega
              exact ih (i + 1) (chW n (g - 1) 1 (chW n g (-1) w2)) (by omega) (by exact mvW_WI hn hL ha hg hw2 hcan) (by rw [he9, flW_t _ hcan] at hq1; rw [← hq1]; show i + 1 + (flW n L a g (m - (i + 1)).toNat (mvW n g 1 w2)).1 = i + ((flW n L a g (m - (i + 1)).toNat (mvW n g 1 w2)).1 + 1); omega) (by rw [he9, flW_t _ hcan] at hq2; exact hq2) (by omega) _ _ hP hD hS _ (lv_sub hl [0, 2, 3, 4] rfl)
            · refine lv_aload_n hx hb dX4_flow_33 rfl (lv_at hl 1 rfl) ?_
              refine lv_iload_n hx hb dX4_flow_34 rfl (lv_at hl 2 rfl) ?_
              refine li_const hx hb dX4_flow_35 ?_
              refine li_sub hx hb dX4_flow_36 ?_
              refine cl_i0 (isC := [0, 1]) (isR := []) (isN := [0, 1]) (wr := []) (wn := cWa cI n L a gd w2 W0 W1) (As := [.int (iI (g - 1))]) (rest := []) (r := lvA n L a w2 (g - 1)) (ci := 4) (q0 := 0) ⟨hx, hb, hml, hown, hts⟩ (c_X4_levelAt n L a gd w2 W0 W1 (g - 1) (by first | assumption | omega) (by first | assumption | omega) (by first | assumption | omega) (by first | assumption | omega) (by first | assumption | omega)) (cwV 1 hts gX4_flow_X4_levelAt rfl rfl rfl (by decide +kernel) ⟨Nat.le_of_ble_eq_true rfl, Nat.le_of_ble_eq_true rfl⟩) hK hNW hP hD hS hA rfl rfl rfl rfl (by decide) rfl rfl rfl rfl rfl rfl hl.1 rfl (Nat.le_of_ble_eq_true rfl) dX4_flow_37 ⟨Nat.zero_le _, Nat.zero_le _⟩ (fun H locs hP hD hS => ?_)
              refine lv_aload_n hx hb dX4_flow_40 rfl (lv_at hl 1 rfl) ?_
              refine lv_iload_n hx hb dX4_flow_41 rfl (lv_at hl 2 rfl) ?_
              refine li_const hx hb dX4_flow_42 ?_
              refine li_sub hx hb dX4_flow_43 ?_
              refine cl_i0 (isC := [0, 1]) (isR := []) (isN := [0, 1]) (wr := []) (wn := cWa cI n L a gd w2 W0 W1) (As := [.int (iI (g - 1))]) (rest := [.int (iI (lvA n L a w2 (g - 1)))]) (r := (g - 1) * L + L) (ci := 4) (q0 := 0) ⟨hx, hb, hml, hown, hts⟩ (c_X4_topOf n L a gd w2 W0 W1 (g - 1) ) (cwV 1 hts gX4_flow_X4_topOf rfl rfl rfl (by decide +kernel) ⟨Nat.le_of_ble_eq_true rfl, Nat.le_of_ble_eq_true rfl⟩) hK hNW hP hD hS hA rfl rfl rfl rfl (by decide) rfl rfl rfl rfl rfl rfl hl.1 rfl (Nat.le_of_ble_eq_true rfl) dX4_flow_44 ⟨Nat.zero_le _, Nat.zero_le _⟩ (fun H locs hP hD hS => ?_)
              refine li_icmp_ge (tgt := 54) hx hb dX4_flow_47 (by decide) (ib_i (by omega) (by omega)) (ib_i (by omega) (by omega)) (fun c_47 => ?_) (fun c_47 => ?_)
              · refine li_const hx hb dX4_flow_54 ?_
                refine lv_goto (tgt := 78) hx hb dX4_flow_55 (by decide) ?_
                refine lv_istore (lv' := [(4, .int (iI 0)), (3, .int (iI i)), (0, .ref W0), (1, .int (iI g)), (2, .int (iI m))]) hx hb dX4_flow_78 hl (by decide) rfl (fun ls hl => ?_)
                refine lv_iload hx hb dX4_flow_80 (lv_at hl 0 rfl) ?_
                refine li_if_ne_f (tgt := 87) hx hb dX4_flow_82 (by decide) (by decide) (by decide) ?_
                have hcan : canW n L a g w2 = false := by
                  cases hq : canW n L a g w2 with | false => rfl | true => (unfold canW at hq; exfalso; first | (rw [if_pos (by omega)] at hq; simp only [Bool.and_eq_true, Bool.or_eq_true, decide_eq_true_eq] at hq; omega) | (rw [if_neg (by omega)] at hq; simp only [decide_eq_true_eq] at hq; omega))
                refine lv_iload_n hx hb dX4_flow_85 rfl (lv_at hl 1 rfl) ?_
                exact li_iret () hx hb hr hlocks hK hP hD hS dX4_flow_86 hQ (by rw [← hq2, flW_f _ hcan]) (congrArg iI (by rw [← hq1, flW_f _ hcan]; show i = i + 0; omega))
              · refine li_const hx hb dX4_flow_50 ?_
                refine lv_goto (tgt := 78) hx hb dX4_flow_51 (by decide) ?_
                refine lv_istore (lv' := [(4, .int (iI 1)), (3, .int (iI i)), (0, .ref W0), (1, .int (iI g)), (2, .int (iI m))]) hx hb dX4_flow_78 hl (by decide) rfl (fun ls hl => ?_)
                refine lv_iload hx hb dX4_flow_80 (lv_at hl 0 rfl) ?_
                refine li_if_ne_t (tgt := 87) hx hb dX4_flow_82 (by decide) (by decide) (by decide) ?_
                have hcan : canW n L a g w2 = true := by
                  unfold canW; first | (rw [if_pos (by omega)]; simp only [Bool.and_eq_true, Bool.or_eq_true, decide_eq_true_eq]; omega) | (rw [if_neg (by omega)]; simp only [decide_eq_true_eq]; omega)
                refine lv_aload_n hx hb dX4_flow_87 rfl (lv_at hl 2 rfl) ?_
                refine lv_iload_n hx hb dX4_flow_88 rfl (lv_at hl 3 rfl) ?_
                refine li_const hx hb dX4_flow_89 ?_
                refine cl_v0 (isC := [0, 1]) (isR := []) (isN := [0, 1]) (wr := []) (wn := cWa cI n L a gd (chW n g (-1) w2) W0 W1) (As := [.int (iI g), .int (iI (-1))]) (rest := []) (ci := 4) (q0 := 0) ⟨hx, hb, hml, hown, hts⟩ (c_X4_change n L a gd w2 W0 W1 g (-1) (by first | assumption | omega) (by first | assumption | omega) (by first | assumption | omega) (by first | assumption | omega)) (cwV 2 hts gX4_flow_X4_change rfl rfl rfl (by decide +kernel) ⟨Nat.le_of_ble_eq_true rfl, Nat.le_of_ble_eq_true rfl⟩) hK hNW hP hD hS hA rfl rfl rfl rfl (by decide) rfl rfl rfl rfl rfl rfl hl.1 rfl (Nat.le_of_ble_eq_true rfl) dX4_flow_90 ⟨Nat.zero_le _, Nat.zero_le _⟩ (fun H locs hP hD hS => ?_)
                refine lv_aload_n hx hb dX4_flow_93 rfl (lv_at hl 2 rfl) ?_
                refine lv_iload_n hx hb dX4_flow_94 rfl (lv_at hl 3 rfl) ?_
                refine li_const hx hb dX4_flow_95 ?_
                refine li_sub hx hb dX4_flow_96 ?_
                refine li_const hx hb dX4_flow_97 ?_
                refine cl_v0 (isC := [0, 1]) (isR := []) (isN := [0, 1]) (wr := []) (wn := cWa cI n L a gd (chW n (g - 1) 1 (chW n g (-1) w2)) W0 W1) (As := [.int (iI (g - 1)), .int (iI 1)]) (rest := []) (ci := 4) (q0 := 0) ⟨hx, hb, hml, hown, hts⟩ (c_X4_change n L a gd (chW n g (-1) w2) W0 W1 (g - 1) 1 (by first | assumption | omega) (by first | assumption | omega) (by first | assumption | omega) (by first | assumption | omega)) (cwV 2 hts gX4_flow_X4_change rfl rfl rfl (by decide +kernel) ⟨Nat.le_of_ble_eq_true rfl, Nat.le_of_ble_eq_true rfl⟩) hK hNW hP hD hS hA rfl rfl rfl rfl (by decide) rfl rfl rfl rfl rfl rfl hl.1 rfl (Nat.le_of_ble_eq_true rfl) dX4_flow_98 ⟨Nat.zero_le _, Nat.zero_le _⟩ (fun H locs hP hD hS => ?_)
                refine li_inc (j := 1) (lv' := [(3, .int (iI (i + 1))), (4, .int (iI 1)), (0, .ref W0), (1, .int (iI g)), (2, .int (iI m))]) hx hb dX4_flow_101 hl rfl (by decide) rfl (fun ls hl => ?_)
                refine lv_goto (tgt := 2) hx hb dX4_flow_104 (by decide) ?_
                have he9 : (m - i).toNat = (m - (i + 1)).toNat + 1 := by omega
                exact ih (i + 1) (chW n (g - 1) 1 (chW n g (-1) w2)) (by omega) (by exact mvW_WI hn hL ha hg hw2 hcan) (by rw [he9, flW_t _ hcan] at hq1; rw [← hq1]; show i + 1 + (flW n L a g (m - (i + 1)).toNat (mvW n g 1 w2)).1 = i + ((flW n L a g (m - (i + 1)).toNat (mvW n g 1 w2)).1 + 1); omega) (by rw [he9, flW_t _ hcan] at hq2; exact hq2) (by omega) _ _ hP hD hS _ (lv_sub hl [0, 2, 3, 4] rfl)
  exact loop_2 (((m - 0) : Int) + 1).toNat 0 w (by omega) (by exact hw) (by rw [Int.sub_zero, Int.zero_add]) (by rw [Int.sub_zero]) (by omega) _ _ hP hD hS _ (lv_sub hl [0, 1, 2, 3] rfl)
