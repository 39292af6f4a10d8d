set_option maxRecDepth 100000 in
set_option maxHeartbeats 4000000 in
theorem c_X1_isOpenAt {l : Launch} {D : va_G} {cI cZ cJ : ClassId} (op : Int → Int) (tn : Int → Int) (G0 G1 G2 : Nat) (g : Int) (hop : opB op) (i_g : -2147483648 ≤ g ∧ g < 2147483648) : Di l yX1_isOpenAt wsX1_isOpenAt 1 [.ref G0, .int (iI g)] D (ty3 cI cZ cJ) (cGa cI cZ op tn G0 G1 G2) (bz (isO op g = true)) (cGa cI cZ op tn G0 G1 G2) := by
  refine ct_i (plainFor_of_name (by decide)) rfl (Nat.le_of_ble_eq_true rfl) ?_
  intro p e s mI args below meth c_0 ls A hx hb hr hml hts hown hlocks hin hA hP hK hD hNW hS hl Q hQ
  have hown : s.vm.findClass RX1 = some mI.cls := hown
  have hl : lv_has ls 2 [(0, .ref G0), (1, .int (iI g))] := hl
  have hin_X1 : ∀ w ∈ wsX10, w ∈ wsX1_isOpenAt := by decide +kernel
  have hf_9 := hts (.fieldLink RX1 9 "LockStaircase$Gates" "open" "[Z") (by decide +kernel)
  have ho := hop g
  refine lv_iload_n hx hb dX1_isOpenAt_0 rfl (lv_at hl 1 rfl) ?_
  refine li_if_lt (tgt := 26) hx hb dX1_isOpenAt_1 (by decide) (ib_i (by omega) (by omega)) (fun c_1 => ?_) (fun c_1 => ?_)
  · refine li_const hx hb dX1_isOpenAt_26 ?_
    exact li_zret () hx hb hr hlocks hK hP hD hS (by decide) dX1_isOpenAt_27 hQ rfl (congrArg iI (by first | exact (bz_t (isO_iff.mpr (by omega))).symm | exact (bz_f (fun h => by have := isO_iff.mp h; omega)).symm))
  · refine lv_iload_n hx hb dX1_isOpenAt_4 rfl (lv_at hl 1 rfl) ?_
    refine lv_aload_n hx hb dX1_isOpenAt_5 rfl (lv_at hl 0 rfl) ?_
    refine li_get (ci := 1) (v := .ref G1) (C := RX1) (T := TX1) (N := 2) (q0 := 0) (k := 0) hx hb hts hin_X1 hown hK hP rfl rfl (by decide) hf_9 rfl rfl dX1_isOpenAt_6 ?_
    refine li_alen (q0 := 1) (t0 := 1) (z := 7) hx hb hK hP rfl rfl (by omega) dX1_isOpenAt_9 ?_
    refine li_icmp_ge (tgt := 26) hx hb dX1_isOpenAt_10 (by decide) (ib_i (by omega) (by omega)) (by decide) (fun c_10 => ?_) (fun c_10 => ?_)
    · refine li_const hx hb dX1_isOpenAt_26 ?_
      exact li_zret () hx hb hr hlocks hK hP hD hS (by decide) dX1_isOpenAt_27 hQ rfl (congrArg iI (by first | exact (bz_t (isO_iff.mpr (by omega))).symm | exact (bz_f (fun h => by have := isO_iff.mp h; omega)).symm))
    · refine lv_aload_n hx hb dX1_isOpenAt_13 rfl (lv_at hl 0 rfl) ?_
      refine li_get (ci := 1) (v := .ref G1) (C := RX1) (T := TX1) (N := 2) (q0 := 0) (k := 0) hx hb hts hin_X1 hown hK hP rfl rfl (by decide) hf_9 rfl rfl dX1_isOpenAt_14 ?_
      refine lv_iload_n hx hb dX1_isOpenAt_17 rfl (lv_at hl 1 rfl) ?_
      refine li_zald (q0 := 1) (t0 := 1) (g := op) hx hb hK hP rfl rfl (by omega) (by omega) (ib_i (by omega) (by omega)) dX1_isOpenAt_18 ?_
      refine li_if_eq (tgt := 26) hx hb dX1_isOpenAt_19 (by decide) (ib_i (by omega) (by omega)) (fun c_19 => ?_) (fun c_19 => ?_)
      · refine li_const hx hb dX1_isOpenAt_26 ?_
        exact li_zret () hx hb hr hlocks hK hP hD hS (by decide) dX1_isOpenAt_27 hQ rfl (congrArg iI (by first | exact (bz_t (isO_iff.mpr (by omega))).symm | exact (bz_f (fun h => by have := isO_iff.mp h; omega)).symm))
      · refine li_const hx hb dX1_isOpenAt_22 ?_
        refine lv_goto (tgt := 27) hx hb dX1_isOpenAt_23 (by decide) ?_
        exact li_zret () hx hb hr hlocks hK hP hD hS (by decide) dX1_isOpenAt_27 hQ rfl (congrArg iI (by first | exact (bz_t (isO_iff.mpr (by omega))).symm | exact (bz_f (fun h => by have := isO_iff.mp h; omega)).symm))

set_option maxRecDepth 100000 in
set_option maxHeartbeats 4000000 in
theorem c_X1_turnsAt {l : Launch} {D : va_G} {cI cZ cJ : ClassId} (op : Int → Int) (tn : Int → Int) (G0 G1 G2 : Nat) (g : Int) (i_g : -2147483648 ≤ g ∧ g < 2147483648) : Di l yX1_turnsAt wsX1_turnsAt 1 [.ref G0, .int (iI g)] D (ty3 cI cZ cJ) (cGa cI cZ op tn G0 G1 G2) (tnA tn g) (cGa cI cZ op tn G0 G1 G2) := by
  refine ct_i (plainFor_of_name (by decide)) rfl (Nat.le_of_ble_eq_true rfl) ?_
  intro p e s mI args below meth c_0 ls A hx hb hr hml hts hown hlocks hin hA hP hK hD hNW hS hl Q hQ
  have hown : s.vm.findClass RX1 = some mI.cls := hown
  have hl : lv_has ls 2 [(0, .ref G0), (1, .int (iI g))] := hl
  have hin_X1 : ∀ w ∈ wsX10, w ∈ wsX1_turnsAt := by decide +kernel
  have hf_15 := hts (.fieldLink RX1 15 "LockStaircase$Gates" "turns" "[I") (by decide +kernel)
  refine lv_iload_n hx hb dX1_turnsAt_0 rfl (lv_at hl 1 rfl) ?_
  refine li_if_lt (tgt := 22) hx hb dX1_turnsAt_1 (by decide) (ib_i (by omega) (by omega)) (fun c_1 => ?_) (fun c_1 => ?_)
  · refine li_const hx hb dX1_turnsAt_22 ?_
    exact li_iret () hx hb hr hlocks hK hP hD hS dX1_turnsAt_23 hQ rfl (congrArg iI (by unfold tnA; first | (rw [if_pos (by omega)]) | (rw [if_neg (by omega)])))
  · refine lv_iload_n hx hb dX1_turnsAt_4 rfl (lv_at hl 1 rfl) ?_
    refine lv_aload_n hx hb dX1_turnsAt_5 rfl (lv_at hl 0 rfl) ?_
    refine li_get (ci := 1) (v := .ref G2) (C := RX1) (T := TX1) (N := 2) (q0 := 0) (k := 1) hx hb hts hin_X1 hown hK hP rfl rfl (by decide) hf_15 rfl rfl dX1_turnsAt_6 ?_
    refine li_alen (q0 := 2) (t0 := 0) (z := 7) hx hb hK hP rfl rfl (by omega) dX1_turnsAt_9 ?_
    refine li_icmp_ge (tgt := 22) hx hb dX1_turnsAt_10 (by decide) (ib_i (by omega) (by omega)) (by decide) (fun c_10 => ?_) (fun c_10 => ?_)
    · refine li_const hx hb dX1_turnsAt_22 ?_
      exact li_iret () hx hb hr hlocks hK hP hD hS dX1_turnsAt_23 hQ rfl (congrArg iI (by unfold tnA; first | (rw [if_pos (by omega)]) | (rw [if_neg (by omega)])))
    · refine lv_aload_n hx hb dX1_turnsAt_13 rfl (lv_at hl 0 rfl) ?_
      refine li_get (ci := 1) (v := .ref G2) (C := RX1) (T := TX1) (N := 2) (q0 := 0) (k := 1) hx hb hts hin_X1 hown hK hP rfl rfl (by decide) hf_15 rfl rfl dX1_turnsAt_14 ?_
      refine lv_iload_n hx hb dX1_turnsAt_17 rfl (lv_at hl 1 rfl) ?_
      refine li_iald (q0 := 2) (t0 := 0) (g := tn) hx hb hK hP rfl rfl (by omega) (by omega) (ib_i (by omega) (by omega)) dX1_turnsAt_18 ?_
      refine lv_goto (tgt := 23) hx hb dX1_turnsAt_19 (by decide) ?_
      exact li_iret () hx hb hr hlocks hK hP hD hS dX1_turnsAt_23 hQ rfl (congrArg iI (by unfold tnA; first | (rw [if_pos (by omega)]) | (rw [if_neg (by omega)])))

set_option maxRecDepth 100000 in
set_option maxHeartbeats 4000000 in
theorem c_X1_isOpenBeside {l : Launch} {D : va_G} {cI cZ cJ : ClassId} (op : Int → Int) (tn : Int → Int) (G0 G1 G2 : Nat) (g : Int) (hop : opB op) (hg : 0 ≤ g ∧ g ≤ 6) : Di l yX1_isOpenBeside wsX1_isOpenBeside 2 [.ref G0, .int (iI g)] D (ty3 cI cZ cJ) (cGa cI cZ op tn G0 G1 G2) (bz (beO op g = true)) (cGa cI cZ op tn G0 G1 G2) := by
  refine ct_i (plainFor_of_name (by decide)) rfl (Nat.le_of_ble_eq_true rfl) ?_
  intro p e s mI args below meth c_0 ls A hx hb hr hml hts hown hlocks hin hA hP hK hD hNW hS hl Q hQ
  have hown : s.vm.findClass RX1 = some mI.cls := hown
  have hl : lv_has ls 2 [(0, .ref G0), (1, .int (iI g))] := hl
  refine lv_aload_n hx hb dX1_isOpenBeside_0 rfl (lv_at hl 0 rfl) ?_
  refine lv_iload_n hx hb dX1_isOpenBeside_1 rfl (lv_at hl 1 rfl) ?_
  refine li_const hx hb dX1_isOpenBeside_2 ?_
  refine li_sub hx hb dX1_isOpenBeside_3 ?_
  refine cl_i0 (isC := [0, 1, 2]) (isR := []) (isN := [0, 1, 2]) (wr := []) (wn := cGa cI cZ op tn G0 G1 G2) (As := [.int (iI (g - 1))]) (rest := []) (r := bz (isO op (g - 1) = true)) (ci := 1) (q0 := 0) ⟨hx, hb, hml, hown, hts⟩ (c_X1_isOpenAt op tn G0 G1 G2 (g - 1) (by first | assumption | omega) (by first | assumption | omega)) (cwV 1 hts gX1_isOpenBeside_X1_isOpenAt rfl rfl rfl (by decide +kernel) ⟨Nat.le_of_ble_eq_true rfl, Nat.le_of_ble_eq_true rfl⟩) hK hNW hP hD hS hA rfl rfl rfl rfl (by decide) rfl rfl rfl rfl rfl rfl hl.1 rfl (Nat.le_of_ble_eq_true rfl) dX1_isOpenBeside_4 ⟨Nat.zero_le _, Nat.zero_le _⟩ (fun H locs hP hD hS => ?_)
  refine li_ifb_ne (tgt := 28) hx hb dX1_isOpenBeside_7 (by decide) (fun c_7 => ?_) (fun c_7 => ?_)
  · refine li_const hx hb dX1_isOpenBeside_28 ?_
    refine lv_goto (tgt := 33) hx hb dX1_isOpenBeside_29 (by decide) ?_
    exact li_zret () hx hb hr hlocks hK hP hD hS (by decide) dX1_isOpenBeside_33 hQ rfl (congrArg iI (by unfold beO; first | exact (bz_t (by simp only [Bool.or_eq_true]; first | exact Or.inl (Or.inl (by assumption)) | exact Or.inl (Or.inr (by assumption)) | exact Or.inr (by assumption))).symm | exact (bz_f (by simp only [Bool.or_eq_true]; intro h; rcases h with (h | h) | h <;> contradiction)).symm))
  · refine lv_aload_n hx hb dX1_isOpenBeside_10 rfl (lv_at hl 0 rfl) ?_
    refine lv_iload_n hx hb dX1_isOpenBeside_11 rfl (lv_at hl 1 rfl) ?_
    refine cl_i0 (isC := [0, 1, 2]) (isR := []) (isN := [0, 1, 2]) (wr := []) (wn := cGa cI cZ op tn G0 G1 G2) (As := [.int (iI g)]) (rest := []) (r := bz (isO op g = true)) (ci := 1) (q0 := 0) ⟨hx, hb, hml, hown, hts⟩ (c_X1_isOpenAt op tn G0 G1 G2 g (by first | assumption | omega) (by first | assumption | omega)) (cwV 1 hts gX1_isOpenBeside_X1_isOpenAt rfl rfl rfl (by decide +kernel) ⟨Nat.le_of_ble_eq_true rfl, Nat.le_of_ble_eq_true rfl⟩) hK hNW hP hD hS hA rfl rfl rfl rfl (by decide) rfl rfl rfl rfl rfl rfl hl.1 rfl (Nat.le_of_ble_eq_true rfl) dX1_isOpenBeside_12 ⟨Nat.zero_le _, Nat.zero_le _⟩ (fun H locs hP hD hS => ?_)
    refine li_ifb_ne (tgt := 28) hx hb dX1_isOpenBeside_15 (by decide) (fun c_15 => ?_) (fun c_15 => ?_)
    · refine li_const hx hb dX1_isOpenBeside_28 ?_
      refine lv_goto (tgt := 33) hx hb dX1_isOpenBeside_29 (by decide) ?_
      exact li_zret () hx hb hr hlocks hK hP hD hS (by decide) dX1_isOpenBeside_33 hQ rfl (congrArg iI (by unfold beO; first | exact (bz_t (by simp only [Bool.or_eq_true]; first | exact Or.inl (Or.inl (by assumption)) | exact Or.inl (Or.inr (by assumption)) | exact Or.inr (by assumption))).symm | exact (bz_f (by simp only [Bool.or_eq_true]; intro h; rcases h with (h | h) | h <;> contradiction)).symm))
    · refine lv_aload_n hx hb dX1_isOpenBeside_18 rfl (lv_at hl 0 rfl) ?_
      refine lv_iload_n hx hb dX1_isOpenBeside_19 rfl (lv_at hl 1 rfl) ?_
      refine li_const hx hb dX1_isOpenBeside_20 ?_
      refine li_add hx hb dX1_isOpenBeside_21 ?_
      refine cl_i0 (isC := [0, 1, 2]) (isR := []) (isN := [0, 1, 2]) (wr := []) (wn := cGa cI cZ op tn G0 G1 G2) (As := [.int (iI (g + 1))]) (rest := []) (r := bz (isO op (g + 1) = true)) (ci := 1) (q0 := 0) ⟨hx, hb, hml, hown, hts⟩ (c_X1_isOpenAt op tn G0 G1 G2 (g + 1) (by first | assumption | omega) (by first | assumption | omega)) (cwV 1 hts gX1_isOpenBeside_X1_isOpenAt rfl rfl rfl (by decide +kernel) ⟨Nat.le_of_ble_eq_true rfl, Nat.le_of_ble_eq_true rfl⟩) hK hNW hP hD hS hA rfl rfl rfl rfl (by decide) rfl rfl rfl rfl rfl rfl hl.1 rfl (Nat.le_of_ble_eq_true rfl) dX1_isOpenBeside_22 ⟨Nat.zero_le _, Nat.zero_le _⟩ (fun H locs hP hD hS => ?_)
      refine li_ifb_eq (tgt := 32) hx hb dX1_isOpenBeside_25 (by decide) (fun c_25 => ?_) (fun c_25 => ?_)
      · refine li_const hx hb dX1_isOpenBeside_32 ?_
        exact li_zret () hx hb hr hlocks hK hP hD hS (by decide) dX1_isOpenBeside_33 hQ rfl (congrArg iI (by unfold beO; first | exact (bz_t (by simp only [Bool.or_eq_true]; first | exact Or.inl (Or.inl (by assumption)) | exact Or.inl (Or.inr (by assumption)) | exact Or.inr (by assumption))).symm | exact (bz_f (by simp only [Bool.or_eq_true]; intro h; rcases h with (h | h) | h <;> contradiction)).symm))
      · refine li_const hx hb dX1_isOpenBeside_28 ?_
        refine lv_goto (tgt := 33) hx hb dX1_isOpenBeside_29 (by decide) ?_
        exact li_zret () hx hb hr hlocks hK hP hD hS (by decide) dX1_isOpenBeside_33 hQ rfl (congrArg iI (by unfold beO; first | exact (bz_t (by simp only [Bool.or_eq_true]; first | exact Or.inl (Or.inl (by assumption)) | exact Or.inl (Or.inr (by assumption)) | exact Or.inr (by assumption))).symm | exact (bz_f (by simp only [Bool.or_eq_true]; intro h; rcases h with (h | h) | h <;> contradiction)).symm))

set_option maxRecDepth 100000 in
set_option maxHeartbeats 4000000 in
theorem c_X1_isSluiceUpBeside {l : Launch} {D : va_G} {cI cZ cJ : ClassId} (op : Int → Int) (tn : Int → Int) (G0 G1 G2 : Nat) (g : Int) (htn : tnB tn) (hg : 0 ≤ g ∧ g ≤ 6) : Di l yX1_isSluiceUpBeside wsX1_isSluiceUpBeside 2 [.ref G0, .int (iI g)] D (ty3 cI cZ cJ) (cGa cI cZ op tn G0 G1 G2) (bz (beS tn g = true)) (cGa cI cZ op tn G0 G1 G2) := by
  refine ct_i (plainFor_of_name (by decide)) rfl (Nat.le_of_ble_eq_true rfl) ?_
  intro p e s mI args below meth c_0 ls A hx hb hr hml hts hown hlocks hin hA hP hK hD hNW hS hl Q hQ
  have hown : s.vm.findClass RX1 = some mI.cls := hown
  have hl : lv_has ls 2 [(0, .ref G0), (1, .int (iI g))] := hl
  have t1 := tnA_b htn (g - 1)
  have t2 := tnA_b htn g
  have t3 := tnA_b htn (g + 1)
  refine lv_aload_n hx hb dX1_isSluiceUpBeside_0 rfl (lv_at hl 0 rfl) ?_
  refine lv_iload_n hx hb dX1_isSluiceUpBeside_1 rfl (lv_at hl 1 rfl) ?_
  refine li_const hx hb dX1_isSluiceUpBeside_2 ?_
  refine li_sub hx hb dX1_isSluiceUpBeside_3 ?_
  refine cl_i0 (isC := [0, 1, 2]) (isR := []) (isN := [0, 1, 2]) (wr := []) (wn := cGa cI cZ op tn G0 G1 G2) (As := [.int (iI (g - 1))]) (rest := []) (r := tnA tn (g - 1)) (ci := 1) (q0 := 0) ⟨hx, hb, hml, hown, hts⟩ (c_X1_turnsAt op tn G0 G1 G2 (g - 1) (by first | assumption | omega)) (cwV 1 hts gX1_isSluiceUpBeside_X1_turnsAt rfl rfl rfl (by decide +kernel) ⟨Nat.le_of_ble_eq_true rfl, Nat.le_of_ble_eq_true rfl⟩) hK hNW hP hD hS hA rfl rfl rfl rfl (by decide) rfl rfl rfl rfl rfl rfl hl.1 rfl (Nat.le_of_ble_eq_true rfl) dX1_isSluiceUpBeside_4 ⟨Nat.zero_le _, Nat.zero_le _⟩ (fun H locs hP hD hS => ?_)
  refine li_if_gt (tgt := 28) hx hb dX1_isSluiceUpBeside_7 (by decide) (ib_i (by omega) (by omega)) (fun c_7 => ?_) (fun c_7 => ?_)
  · refine li_const hx hb dX1_isSluiceUpBeside_28 ?_
    refine lv_goto (tgt := 33) hx hb dX1_isSluiceUpBeside_29 (by decide) ?_
    exact li_zret () hx hb hr hlocks hK hP hD hS (by decide) dX1_isSluiceUpBeside_33 hQ rfl (congrArg iI (by unfold beS; first | exact (bz_t (by simp only [Bool.or_eq_true, decide_eq_true_eq]; omega)).symm | exact (bz_f (by simp only [Bool.or_eq_true, decide_eq_true_eq]; omega)).symm))
  · refine lv_aload_n hx hb dX1_isSluiceUpBeside_10 rfl (lv_at hl 0 rfl) ?_
    refine lv_iload_n hx hb dX1_isSluiceUpBeside_11 rfl (lv_at hl 1 rfl) ?_
    refine cl_i0 (isC := [0, 1, 2]) (isR := []) (isN := [0, 1, 2]) (wr := []) (wn := cGa cI cZ op tn G0 G1 G2) (As := [.int (iI g)]) (rest := []) (r := tnA tn g) (ci := 1) (q0 := 0) ⟨hx, hb, hml, hown, hts⟩ (c_X1_turnsAt op tn G0 G1 G2 g (by first | assumption | omega)) (cwV 1 hts gX1_isSluiceUpBeside_X1_turnsAt rfl rfl rfl (by decide +kernel) ⟨Nat.le_of_ble_eq_true rfl, Nat.le_of_ble_eq_true rfl⟩) hK hNW hP hD hS hA rfl rfl rfl rfl (by decide) rfl rfl rfl rfl rfl rfl hl.1 rfl (Nat.le_of_ble_eq_true rfl) dX1_isSluiceUpBeside_12 ⟨Nat.zero_le _, Nat.zero_le _⟩ (fun H locs hP hD hS => ?_)
    refine li_if_gt (tgt := 28) hx hb dX1_isSluiceUpBeside_15 (by decide) (ib_i (by omega) (by omega)) (fun c_15 => ?_) (fun c_15 => ?_)
    · refine li_const hx hb dX1_isSluiceUpBeside_28 ?_
      refine lv_goto (tgt := 33) hx hb dX1_isSluiceUpBeside_29 (by decide) ?_
      exact li_zret () hx hb hr hlocks hK hP hD hS (by decide) dX1_isSluiceUpBeside_33 hQ rfl (congrArg iI (by unfold beS; first | exact (bz_t (by simp only [Bool.or_eq_true, decide_eq_true_eq]; omega)).symm | exact (bz_f (by simp only [Bool.or_eq_true, decide_eq_true_eq]; omega)).symm))
    · refine lv_aload_n hx hb dX1_isSluiceUpBeside_18 rfl (lv_at hl 0 rfl) ?_
      refine lv_iload_n hx hb dX1_isSluiceUpBeside_19 rfl (lv_at hl 1 rfl) ?_
      refine li_const hx hb dX1_isSluiceUpBeside_20 ?_
      refine li_add hx hb dX1_isSluiceUpBeside_21 ?_
      refine cl_i0 (isC := [0, 1, 2]) (isR := []) (isN := [0, 1, 2]) (wr := []) (wn := cGa cI cZ op tn G0 G1 G2) (As := [.int (iI (g + 1))]) (rest := []) (r := tnA tn (g + 1)) (ci := 1) (q0 := 0) ⟨hx, hb, hml, hown, hts⟩ (c_X1_turnsAt op tn G0 G1 G2 (g + 1) (by first | assumption | omega)) (cwV 1 hts gX1_isSluiceUpBeside_X1_turnsAt rfl rfl rfl (by decide +kernel) ⟨Nat.le_of_ble_eq_true rfl, Nat.le_of_ble_eq_true rfl⟩) hK hNW hP hD hS hA rfl rfl rfl rfl (by decide) rfl rfl rfl rfl rfl rfl hl.1 rfl (Nat.le_of_ble_eq_true rfl) dX1_isSluiceUpBeside_22 ⟨Nat.zero_le _, Nat.zero_le _⟩ (fun H locs hP hD hS => ?_)
      refine li_if_le (tgt := 32) hx hb dX1_isSluiceUpBeside_25 (by decide) (ib_i (by omega) (by omega)) (fun c_25 => ?_) (fun c_25 => ?_)
      · refine li_const hx hb dX1_isSluiceUpBeside_32 ?_
        exact li_zret () hx hb hr hlocks hK hP hD hS (by decide) dX1_isSluiceUpBeside_33 hQ rfl (congrArg iI (by unfold beS; first | exact (bz_t (by simp only [Bool.or_eq_true, decide_eq_true_eq]; omega)).symm | exact (bz_f (by simp only [Bool.or_eq_true, decide_eq_true_eq]; omega)).symm))
      · refine li_const hx hb dX1_isSluiceUpBeside_28 ?_
        refine lv_goto (tgt := 33) hx hb dX1_isSluiceUpBeside_29 (by decide) ?_
        exact li_zret () hx hb hr hlocks hK hP hD hS (by decide) dX1_isSluiceUpBeside_33 hQ rfl (congrArg iI (by unfold beS; first | exact (bz_t (by simp only [Bool.or_eq_true, decide_eq_true_eq]; omega)).symm | exact (bz_f (by simp only [Bool.or_eq_true, decide_eq_true_eq]; omega)).symm))

set_option maxRecDepth 100000 in
set_option maxHeartbeats 4000000 in
theorem c_X1_setOpen {l : Launch} {D : va_G} {cI cZ cJ : ClassId} (op : Int → Int) (tn : Int → Int) (G0 G1 G2 : Nat) (g : Int) (b : Int) (hg : 0 ≤ g ∧ g ≤ 6) (h01 : b = 0 ∨ b = 1) : Dv l yX1_setOpen wsX1_setOpen 1 [.ref G0, .int (iI g), .int (iI b)] D (ty3 cI cZ cJ) (cGa cI cZ op tn G0 G1 G2) (cGa cI cZ (upZ op g b) tn G0 G1 G2) := by
  refine ct_v (plainFor_of_name (by decide)) rfl (Nat.le_of_ble_eq_true rfl) ?_
  intro p e s mI args below meth c_0 ls A hx hb hr hml hts hown hlocks hin hA hP hK hD hNW hS hl Q hQ
  have hown : s.vm.findClass RX1 = some mI.cls := hown
  have hl : lv_has ls 3 [(0, .ref G0), (1, .int (iI g)), (2, .int (iI b))] := hl
  have hin_X1 : ∀ w ∈ wsX10, w ∈ wsX1_setOpen := by decide +kernel
  have hf_9 := hts (.fieldLink RX1 9 "LockStaircase$Gates" "open" "[Z") (by decide +kernel)
  refine lv_iload_n hx hb dX1_setOpen_0 rfl (lv_at hl 1 rfl) ?_
  refine li_if_lt_f (tgt := 20) hx hb dX1_setOpen_1 (by decide) (ib_i (by omega) (by omega)) (by omega) ?_
  refine lv_iload_n hx hb dX1_setOpen_4 rfl (lv_at hl 1 rfl) ?_
  refine lv_aload_n hx hb dX1_setOpen_5 rfl (lv_at hl 0 rfl) ?_
  refine li_get (ci := 1) (v := .ref G1) (C := RX1) (T := TX1) (N := 2) (q0 := 0) (k := 0) hx hb hts hin_X1 hown hK hP rfl rfl (by decide) hf_9 rfl rfl dX1_setOpen_6 ?_
  refine li_alen (q0 := 1) (t0 := 1) (z := 7) hx hb hK hP rfl rfl (by omega) dX1_setOpen_9 ?_
  refine li_icmp_ge_f (tgt := 20) hx hb dX1_setOpen_10 (by decide) (ib_i (by omega) (by omega)) (by decide) (by omega) ?_
  refine lv_aload_n hx hb dX1_setOpen_13 rfl (lv_at hl 0 rfl) ?_
  refine li_get (ci := 1) (v := .ref G1) (C := RX1) (T := TX1) (N := 2) (q0 := 0) (k := 0) hx hb hts hin_X1 hown hK hP rfl rfl (by decide) hf_9 rfl rfl dX1_setOpen_14 ?_
  refine lv_iload_n hx hb dX1_setOpen_17 rfl (lv_at hl 1 rfl) ?_
  refine lv_iload_n hx hb dX1_setOpen_18 rfl (lv_at hl 2 rfl) ?_
  refine li_zast (q0 := 1) (t0 := 1) (g := op) (w2 := cGa cI cZ (upZ op g b) tn G0 G1 G2) hx hb hK hP hD hS rfl rfl (by omega) (by omega) (ib_i (by omega) (by omega)) (by omega) dX1_setOpen_19 rfl (fun H locs hP hD hS => ?_)
  exact li_vret () hx hb hr hlocks hK hP hD hS dX1_setOpen_20 hQ rfl trivial

set_option maxRecDepth 100000 in
set_option maxHeartbeats 4000000 in
theorem c_X1_setTurns {l : Launch} {D : va_G} {cI cZ cJ : ClassId} (op : Int → Int) (tn : Int → Int) (G0 G1 G2 : Nat) (g : Int) (b : Int) (hg : 0 ≤ g ∧ g ≤ 6) : Dv l yX1_setTurns wsX1_setTurns 1 [.ref G0, .int (iI g), .int (iI b)] D (ty3 cI cZ cJ) (cGa cI cZ op tn G0 G1 G2) (cGa cI cZ op (upZ tn g b) G0 G1 G2) := by
  refine ct_v (plainFor_of_name (by decide)) rfl (Nat.le_of_ble_eq_true rfl) ?_
  intro p e s mI args below meth c_0 ls A hx hb hr hml hts hown hlocks hin hA hP hK hD hNW hS hl Q hQ
  have hown : s.vm.findClass RX1 = some mI.cls := hown
  have hl : lv_has ls 3 [(0, .ref G0), (1, .int (iI g)), (2, .int (iI b))] := hl
  have hin_X1 : ∀ w ∈ wsX10, w ∈ wsX1_setTurns := by decide +kernel
  have hf_15 := hts (.fieldLink RX1 15 "LockStaircase$Gates" "turns" "[I") (by decide +kernel)
  refine lv_iload_n hx hb dX1_setTurns_0 rfl (lv_at hl 1 rfl) ?_
  refine li_if_lt_f (tgt := 20) hx hb dX1_setTurns_1 (by decide) (ib_i (by omega) (by omega)) (by omega) ?_
  refine lv_iload_n hx hb dX1_setTurns_4 rfl (lv_at hl 1 rfl) ?_
  refine lv_aload_n hx hb dX1_setTurns_5 rfl (lv_at hl 0 rfl) ?_
  refine li_get (ci := 1) (v := .ref G2) (C := RX1) (T := TX1) (N := 2) (q0 := 0) (k := 1) hx hb hts hin_X1 hown hK hP rfl rfl (by decide) hf_15 rfl rfl dX1_setTurns_6 ?_
  refine li_alen (q0 := 2) (t0 := 0) (z := 7) hx hb hK hP rfl rfl (by omega) dX1_setTurns_9 ?_
  refine li_icmp_ge_f (tgt := 20) hx hb dX1_setTurns_10 (by decide) (ib_i (by omega) (by omega)) (by decide) (by omega) ?_
  refine lv_aload_n hx hb dX1_setTurns_13 rfl (lv_at hl 0 rfl) ?_
  refine li_get (ci := 1) (v := .ref G2) (C := RX1) (T := TX1) (N := 2) (q0 := 0) (k := 1) hx hb hts hin_X1 hown hK hP rfl rfl (by decide) hf_15 rfl rfl dX1_setTurns_14 ?_
  refine lv_iload_n hx hb dX1_setTurns_17 rfl (lv_at hl 1 rfl) ?_
  refine lv_iload_n hx hb dX1_setTurns_18 rfl (lv_at hl 2 rfl) ?_
  refine li_iast (q0 := 2) (t0 := 0) (g := tn) (w2 := cGa cI cZ op (upZ tn g b) G0 G1 G2) hx hb hK hP hD hS rfl rfl (by omega) (by omega) (ib_i (by omega) (by omega)) dX1_setTurns_19 rfl (fun H locs hP hD hS => ?_)
  exact li_vret () hx hb hr hlocks hK hP hD hS dX1_setTurns_20 hQ rfl trivial

set_option maxRecDepth 100000 in
set_option maxHeartbeats 4000000 in
theorem c_X1_countOpen {l : Launch} {D : va_G} {cI cZ cJ : ClassId} (op : Int → Int) (tn : Int → Int) (G0 G1 G2 : Nat) (hop : opB op) : Di l yX1_countOpen wsX1_countOpen 1 [.ref G0] D (ty3 cI cZ cJ) (cGa cI cZ op tn G0 G1 G2) (sumZ op 7) (cGa cI cZ op tn G0 G1 G2) := by
  refine ct_i (plainFor_of_name (by decide)) rfl (Nat.le_of_ble_eq_true rfl) ?_
  intro p e s mI args below meth c_0 ls A hx hb hr hml hts hown hlocks hin hA hP hK hD hNW hS hl Q hQ
  have hown : s.vm.findClass RX1 = some mI.cls := hown
  have hl : lv_has ls 3 [(0, .ref G0)] := hl
  have hin_X1 : ∀ w ∈ wsX10, w ∈ wsX1_countOpen := by decide +kernel
  have hf_9 := hts (.fieldLink RX1 9 "LockStaircase$Gates" "open" "[Z") (by decide +kernel)
  refine li_const hx hb dX1_countOpen_0 ?_
  refine lv_istore_n (lv' := [(1, .int (iI 0)), (0, .ref G0)]) hx hb dX1_countOpen_1 rfl hl (by decide) rfl (fun ls hl => ?_)
  refine li_const hx hb dX1_countOpen_2 ?_
  refine lv_istore_n (lv' := [(2, .int (iI 0)), (1, .int (iI 0)), (0, .ref G0)]) hx hb dX1_countOpen_3 rfl hl (by decide) rfl (fun ls hl => ?_)
  have loop_4 : ∀ (N : Nat) (j : Int) (sv : Int), (0 ≤ j ∧ j ≤ 7) → (sv = sumZ op j.toNat) → 7 - j < (N : Int) → ∀ (H : Heap) (locs : List Loc), va_P D vwCl (cGa cI cZ op tn G0 G1 G2) H → va_D A (cGa cI cZ op tn G0 G1 G2) → va_S A s.heap H locs → ∀ (ls : Array Slot), lv_has ls 3 [(2, .int (iI j)), (1, .int (iI sv)), (0, .ref G0)] → W p l e (rK 1 0 0) s mI args below meth c_0 H locs 0 0 Q (F0 mI 4 ls []) := by
    intro N
    induction N with
    | zero =>
      intro j sv hj hh hN
      exact absurd hN (by omega)
    | succ N ih =>
      intro j sv hj hh hN H locs hP hD hS ls hl
      have ho := hop j
      refine lv_iload_n hx hb dX1_countOpen_4 rfl (lv_at hl 0 rfl) ?_
      refine lv_aload_n hx hb dX1_countOpen_5 rfl (lv_at hl 2 rfl) ?_
      refine li_get (ci := 1) (v := .ref G1) (C := RX1) (T := TX1) (N := 2) (q0 := 0) (k := 0) hx hb hts hin_X1 hown hK hP rfl rfl (by decide) hf_9 rfl rfl dX1_countOpen_6 ?_
      refine li_alen (q0 := 1) (t0 := 1) (z := 7) hx hb hK hP rfl rfl (by omega) dX1_countOpen_9 ?_
      refine li_icmp_ge (tgt := 31) hx hb dX1_countOpen_10 (by decide) (ib_i (by omega) (by omega)) (by decide) (fun c_10 => ?_) (fun c_10 => ?_)
      · refine lv_iload_n hx hb dX1_countOpen_31 rfl (lv_at hl 1 rfl) ?_
        exact li_iret () hx hb hr hlocks hK hP hD hS dX1_countOpen_32 hQ rfl (congrArg iI (by rw [hh, show j = 7 by omega]; rfl))
      · refine lv_aload_n hx hb dX1_countOpen_13 rfl (lv_at hl 2 rfl) ?_
        refine li_get (ci := 1) (v := .ref G1) (C := RX1) (T := TX1) (N := 2) (q0 := 0) (k := 0) hx hb hts hin_X1 hown hK hP rfl rfl (by decide) hf_9 rfl rfl dX1_countOpen_14 ?_
        refine lv_iload_n hx hb dX1_countOpen_17 rfl (lv_at hl 0 rfl) ?_
        refine li_zald (q0 := 1) (t0 := 1) (g := op) hx hb hK hP rfl rfl (by omega) (by omega) (ib_i (by omega) (by omega)) dX1_countOpen_18 ?_
        refine li_if_eq (tgt := 25) hx hb dX1_countOpen_19 (by decide) (ib_i (by omega) (by omega)) (fun c_19 => ?_) (fun c_19 => ?_)
        · refine li_inc (j := 0) (lv' := [(2, .int (iI (j + 1))), (1, .int (iI sv)), (0, .ref G0)]) hx hb dX1_countOpen_25 hl rfl (by decide) rfl (fun ls hl => ?_)
          refine lv_goto (tgt := 4) hx hb dX1_countOpen_28 (by decide) ?_
          exact ih (j + 1) sv (by omega) (by rw [sumZ_s _ hj.1]; omega) (by omega) _ _ hP hD hS _ (lv_sub hl [0, 1, 2] rfl)
        · refine li_inc (j := 1) (lv' := [(1, .int (iI (sv + 1))), (2, .int (iI j)), (0, .ref G0)]) hx hb dX1_countOpen_22 hl rfl (by decide) rfl (fun ls hl => ?_)
          refine li_inc (j := 1) (lv' := [(2, .int (iI (j + 1))), (1, .int (iI (sv + 1))), (0, .ref G0)]) hx hb dX1_countOpen_25 hl rfl (by decide) rfl (fun ls hl => ?_)
          refine lv_goto (tgt := 4) hx hb dX1_countOpen_28 (by decide) ?_
          exact ih (j + 1) (sv + 1) (by omega) (by rw [sumZ_s _ hj.1]; omega) (by omega) _ _ hP hD hS _ (lv_sub hl [0, 1, 2] rfl)
  exact loop_4 (((7 - 0) : Int) + 1).toNat 0 0 (by omega) (by rfl) (by omega) _ _ hP hD hS _ (lv_sub hl [0, 1, 2] rfl)

set_option maxRecDepth 100000 in
set_option maxHeartbeats 4000000 in
theorem c_X1_closeAll {l : Launch} {D : va_G} {cI cZ cJ : ClassId} (op : Int → Int) (tn : Int → Int) (G0 G1 G2 : Nat)  : Dv l yX1_closeAll wsX1_closeAll 2 [.ref G0] D (ty3 cI cZ cJ) (cGa cI cZ op tn G0 G1 G2) (cGa cI cZ (zrZ op 7) (zrZ tn 7) G0 G1 G2) := by
  refine ct_v (plainFor_of_name (by decide)) rfl (Nat.le_of_ble_eq_true rfl) ?_
  intro p e s mI args below meth c_0 ls A hx hb hr hml hts hown hlocks hin hA hP hK hD hNW hS hl Q hQ
  have hown : s.vm.findClass RX1 = some mI.cls := hown
  have hl : lv_has ls 2 [(0, .ref G0)] := hl
  refine li_const hx hb dX1_closeAll_0 ?_
  refine lv_istore_n (lv' := [(1, .int (iI 0)), (0, .ref G0)]) hx hb dX1_closeAll_1 rfl hl (by decide) rfl (fun ls hl => ?_)
  have loop_2 : ∀ (N : Nat) (j : Int) (op2 : Int → Int) (tn2 : Int → Int), (0 ≤ j ∧ j ≤ 7) → (op2 = zrZ op j) → (tn2 = zrZ tn j) → 7 - j < (N : Int) → ∀ (H : Heap) (locs : List Loc), va_P D vwCl (cGa cI cZ op2 tn2 G0 G1 G2) H → va_D A (cGa cI cZ op2 tn2 G0 G1 G2) → va_S A s.heap H locs → ∀ (ls : Array Slot), lv_has ls 2 [(1, .int (iI j)), (0, .ref G0)] → W p l e (rK 2 0 0) s mI args below meth c_0 H locs 0 0 Q (F0 mI 2 ls []) := by
    intro N
    induction N with
    | zero =>
      intro j op2 tn2 hj ho2 ht2 hN
      exact absurd hN (by omega)
    | succ N ih =>
      intro j op2 tn2 hj ho2 ht2 hN H locs hP hD hS ls hl
      refine lv_iload_n hx hb dX1_closeAll_2 rfl (lv_at hl 0 rfl) ?_
      refine li_bipush hx hb dX1_closeAll_3 (by decide) ?_
      refine li_icmp_ge (tgt := 26) hx hb dX1_closeAll_5 (by decide) (ib_i (by omega) (by omega)) (by decide) (fun c_5 => ?_) (fun c_5 => ?_)
      · exact li_vret () hx hb hr hlocks hK hP hD hS dX1_closeAll_26 hQ (by rw [ho2, ht2, show j = 7 by omega]) trivial
      · refine lv_aload_n hx hb dX1_closeAll_8 rfl (lv_at hl 1 rfl) ?_
        refine lv_iload_n hx hb dX1_closeAll_9 rfl (lv_at hl 0 rfl) ?_
        refine li_const hx hb dX1_closeAll_10 ?_
        refine cl_v0 (isC := [0, 1, 2]) (isR := []) (isN := [0, 1, 2]) (wr := []) (wn := cGa cI cZ (upZ op2 j 0) tn2 G0 G1 G2) (As := [.int (iI j), .int (iI 0)]) (rest := []) (ci := 1) (q0 := 0) ⟨hx, hb, hml, hown, hts⟩ (c_X1_setOpen op2 tn2 G0 G1 G2 j 0 (by first | assumption | omega) (by first | assumption | omega)) (cwV 2 hts gX1_closeAll_X1_setOpen rfl rfl rfl (by decide +kernel) ⟨Nat.le_of_ble_eq_true rfl, Nat.le_of_ble_eq_true rfl⟩) hK hNW hP hD hS hA rfl rfl rfl rfl (by decide) rfl rfl rfl rfl rfl rfl hl.1 rfl (Nat.le_of_ble_eq_true rfl) dX1_closeAll_11 ⟨Nat.zero_le _, Nat.zero_le _⟩ (fun H locs hP hD hS => ?_)
        refine lv_aload_n hx hb dX1_closeAll_14 rfl (lv_at hl 1 rfl) ?_
        refine lv_iload_n hx hb dX1_closeAll_15 rfl (lv_at hl 0 rfl) ?_
        refine li_const hx hb dX1_closeAll_16 ?_
        refine cl_v0 (isC := [0, 1, 2]) (isR := []) (isN := [0, 1, 2]) (wr := []) (wn := cGa cI cZ (upZ op2 j 0) (upZ tn2 j 0) G0 G1 G2) (As := [.int (iI j), .int (iI 0)]) (rest := []) (ci := 1) (q0 := 0) ⟨hx, hb, hml, hown, hts⟩ (c_X1_setTurns (upZ op2 j 0) tn2 G0 G1 G2 j 0 (by first | assumption | omega)) (cwV 2 hts gX1_closeAll_X1_setTurns rfl rfl rfl (by decide +kernel) ⟨Nat.le_of_ble_eq_true rfl, Nat.le_of_ble_eq_true rfl⟩) hK hNW hP hD hS hA rfl rfl rfl rfl (by decide) rfl rfl rfl rfl rfl rfl hl.1 rfl (Nat.le_of_ble_eq_true rfl) dX1_closeAll_17 ⟨Nat.zero_le _, Nat.zero_le _⟩ (fun H locs hP hD hS => ?_)
        refine li_inc (j := 0) (lv' := [(1, .int (iI (j + 1))), (0, .ref G0)]) hx hb dX1_closeAll_20 hl rfl (by decide) rfl (fun ls hl => ?_)
        refine lv_goto (tgt := 2) hx hb dX1_closeAll_23 (by decide) ?_
        exact ih (j + 1) (upZ op2 j 0) (upZ tn2 j 0) (by omega) (by rw [ho2]; exact zrZ_s _ hj.1) (by rw [ht2]; exact zrZ_s _ hj.1) (by omega) _ _ hP hD hS _ (lv_sub hl [0, 1] rfl)
  exact loop_2 (((7 - 0) : Int) + 1).toNat 0 op tn (by omega) (by exact (zrZ_0 op).symm) (by exact (zrZ_0 tn).symm) (by omega) _ _ hP hD hS _ (lv_sub hl [0, 1] rfl)

set_option maxRecDepth 100000 in
set_option maxHeartbeats 4000000 in
theorem c_X0_lengthAt {l : Launch} {D : va_G} {cI cZ cJ : ClassId} (cnt : Int) (ln : Int → Int) (dr : Int → Int) (pl : Int → Int) (B0 B1 B2 B3 : Nat) (b : Int) (hbt : 0 ≤ b ∧ b ≤ 9) : Di l yX0_lengthAt wsX0_lengthAt 1 [.ref B0, .int (iI b)] D (ty3 cI cZ cJ) (cFl cI cnt ln dr pl B0 B1 B2 B3) (ln b) (cFl cI cnt ln dr pl B0 B1 B2 B3) := by
  refine ct_i (plainFor_of_name (by decide)) rfl (Nat.le_of_ble_eq_true rfl) ?_
  intro p e s mI args below meth c_0 ls A hx hb hr hml hts hown hlocks hin hA hP hK hD hNW hS hl Q hQ
  have hown : s.vm.findClass RX0 = some mI.cls := hown
  have hl : lv_has ls 2 [(0, .ref B0), (1, .int (iI b))] := hl
  have hin_X0 : ∀ w ∈ wsX00, w ∈ wsX0_lengthAt := by decide +kernel
  have hf_9 := hts (.fieldLink RX0 9 "LockStaircase$Fleet" "lengths" "[I") (by decide +kernel)
  refine lv_iload_n hx hb dX0_lengthAt_0 rfl (lv_at hl 1 rfl) ?_
  refine li_if_lt_f (tgt := 22) hx hb dX0_lengthAt_1 (by decide) (ib_i (by omega) (by omega)) (by omega) ?_
  refine lv_iload_n hx hb dX0_lengthAt_4 rfl (lv_at hl 1 rfl) ?_
  refine lv_aload_n hx hb dX0_lengthAt_5 rfl (lv_at hl 0 rfl) ?_
  refine li_get (ci := 0) (v := .ref B1) (C := RX0) (T := TX0) (N := 4) (q0 := 0) (k := 0) hx hb hts hin_X0 hown hK hP rfl rfl (by decide) hf_9 rfl rfl dX0_lengthAt_6 ?_
  refine li_alen (q0 := 1) (t0 := 0) (z := 10) hx hb hK hP rfl rfl (by omega) dX0_lengthAt_9 ?_
  refine li_icmp_ge_f (tgt := 22) hx hb dX0_lengthAt_10 (by decide) (ib_i (by omega) (by omega)) (by decide) (by omega) ?_
  refine lv_aload_n hx hb dX0_lengthAt_13 rfl (lv_at hl 0 rfl) ?_
  refine li_get (ci := 0) (v := .ref B1) (C := RX0) (T := TX0) (N := 4) (q0 := 0) (k := 0) hx hb hts hin_X0 hown hK hP rfl rfl (by decide) hf_9 rfl rfl dX0_lengthAt_14 ?_
  refine lv_iload_n hx hb dX0_lengthAt_17 rfl (lv_at hl 1 rfl) ?_
  refine li_iald (q0 := 1) (t0 := 0) (g := ln) hx hb hK hP rfl rfl (by omega) (by omega) (ib_i (by omega) (by omega)) dX0_lengthAt_18 ?_
  refine lv_goto (tgt := 23) hx hb dX0_lengthAt_19 (by decide) ?_
  exact li_iret () hx hb hr hlocks hK hP hD hS dX0_lengthAt_23 hQ rfl (congrArg iI (rfl))

set_option maxRecDepth 100000 in
set_option maxHeartbeats 4000000 in
theorem c_X0_draughtAt {l : Launch} {D : va_G} {cI cZ cJ : ClassId} (cnt : Int) (ln : Int → Int) (dr : Int → Int) (pl : Int → Int) (B0 B1 B2 B3 : Nat) (b : Int) (hbt : 0 ≤ b ∧ b ≤ 9) : Di l yX0_draughtAt wsX0_draughtAt 1 [.ref B0, .int (iI b)] D (ty3 cI cZ cJ) (cFl cI cnt ln dr pl B0 B1 B2 B3) (dr b) (cFl cI cnt ln dr pl B0 B1 B2 B3) := by
  refine ct_i (plainFor_of_name (by decide)) rfl (Nat.le_of_ble_eq_true rfl) ?_
  intro p e s mI args below meth c_0 ls A hx hb hr hml hts hown hlocks hin hA hP hK hD hNW hS hl Q hQ
  have hown : s.vm.findClass RX0 = some mI.cls := hown
  have hl : lv_has ls 2 [(0, .ref B0), (1, .int (iI b))] := hl
  have hin_X0 : ∀ w ∈ wsX00, w ∈ wsX0_draughtAt := by decide +kernel
  have hf_15 := hts (.fieldLink RX0 15 "LockStaircase$Fleet" "draughts" "[I") (by decide +kernel)
  refine lv_iload_n hx hb dX0_draughtAt_0 rfl (lv_at hl 1 rfl) ?_
  refine li_if_lt_f (tgt := 22) hx hb dX0_draughtAt_1 (by decide) (ib_i (by omega) (by omega)) (by omega) ?_
  refine lv_iload_n hx hb dX0_draughtAt_4 rfl (lv_at hl 1 rfl) ?_
  refine lv_aload_n hx hb dX0_draughtAt_5 rfl (lv_at hl 0 rfl) ?_
  refine li_get (ci := 0) (v := .ref B2) (C := RX0) (T := TX0) (N := 4) (q0 := 0) (k := 1) hx hb hts hin_X0 hown hK hP rfl rfl (by decide) hf_15 rfl rfl dX0_draughtAt_6 ?_
  refine li_alen (q0 := 2) (t0 := 0) (z := 10) hx hb hK hP rfl rfl (by omega) dX0_draughtAt_9 ?_
  refine li_icmp_ge_f (tgt := 22) hx hb dX0_draughtAt_10 (by decide) (ib_i (by omega) (by omega)) (by decide) (by omega) ?_
  refine lv_aload_n hx hb dX0_draughtAt_13 rfl (lv_at hl 0 rfl) ?_
  refine li_get (ci := 0) (v := .ref B2) (C := RX0) (T := TX0) (N := 4) (q0 := 0) (k := 1) hx hb hts hin_X0 hown hK hP rfl rfl (by decide) hf_15 rfl rfl dX0_draughtAt_14 ?_
  refine lv_iload_n hx hb dX0_draughtAt_17 rfl (lv_at hl 1 rfl) ?_
  refine li_iald (q0 := 2) (t0 := 0) (g := dr) hx hb hK hP rfl rfl (by omega) (by omega) (ib_i (by omega) (by omega)) dX0_draughtAt_18 ?_
  refine lv_goto (tgt := 23) hx hb dX0_draughtAt_19 (by decide) ?_
  exact li_iret () hx hb hr hlocks hK hP hD hS dX0_draughtAt_23 hQ rfl (congrArg iI (rfl))

set_option maxRecDepth 100000 in
set_option maxHeartbeats 4000000 in
theorem c_X0_placeAt {l : Launch} {D : va_G} {cI cZ cJ : ClassId} (cnt : Int) (ln : Int → Int) (dr : Int → Int) (pl : Int → Int) (B0 B1 B2 B3 : Nat) (b : Int) (hbt : 0 ≤ b ∧ b ≤ 9) : Di l yX0_placeAt wsX0_placeAt 1 [.ref B0, .int (iI b)] D (ty3 cI cZ cJ) (cFl cI cnt ln dr pl B0 B1 B2 B3) (pl b) (cFl cI cnt ln dr pl B0 B1 B2 B3) := by
  refine ct_i (plainFor_of_name (by decide)) rfl (Nat.le_of_ble_eq_true rfl) ?_
  intro p e s mI args below meth c_0 ls A hx hb hr hml hts hown hlocks hin hA hP hK hD hNW hS hl Q hQ
  have hown : s.vm.findClass RX0 = some mI.cls := hown
  have hl : lv_has ls 2 [(0, .ref B0), (1, .int (iI b))] := hl
  have hin_X0 : ∀ w ∈ wsX00, w ∈ wsX0_placeAt := by decide +kernel
  have hf_18 := hts (.fieldLink RX0 18 "LockStaircase$Fleet" "places" "[I") (by decide +kernel)
  refine lv_iload_n hx hb dX0_placeAt_0 rfl (lv_at hl 1 rfl) ?_
  refine li_if_lt_f (tgt := 22) hx hb dX0_placeAt_1 (by decide) (ib_i (by omega) (by omega)) (by omega) ?_
  refine lv_iload_n hx hb dX0_placeAt_4 rfl (lv_at hl 1 rfl) ?_
  refine lv_aload_n hx hb dX0_placeAt_5 rfl (lv_at hl 0 rfl) ?_
  refine li_get (ci := 0) (v := .ref B3) (C := RX0) (T := TX0) (N := 4) (q0 := 0) (k := 2) hx hb hts hin_X0 hown hK hP rfl rfl (by decide) hf_18 rfl rfl dX0_placeAt_6 ?_
  refine li_alen (q0 := 3) (t0 := 0) (z := 10) hx hb hK hP rfl rfl (by omega) dX0_placeAt_9 ?_
  refine li_icmp_ge_f (tgt := 22) hx hb dX0_placeAt_10 (by decide) (ib_i (by omega) (by omega)) (by decide) (by omega) ?_
  refine lv_aload_n hx hb dX0_placeAt_13 rfl (lv_at hl 0 rfl) ?_
  refine li_get (ci := 0) (v := .ref B3) (C := RX0) (T := TX0) (N := 4) (q0 := 0) (k := 2) hx hb hts hin_X0 hown hK hP rfl rfl (by decide) hf_18 rfl rfl dX0_placeAt_14 ?_
  refine lv_iload_n hx hb dX0_placeAt_17 rfl (lv_at hl 1 rfl) ?_
  refine li_iald (q0 := 3) (t0 := 0) (g := pl) hx hb hK hP rfl rfl (by omega) (by omega) (ib_i (by omega) (by omega)) dX0_placeAt_18 ?_
  refine lv_goto (tgt := 23) hx hb dX0_placeAt_19 (by decide) ?_
  exact li_iret () hx hb hr hlocks hK hP hD hS dX0_placeAt_23 hQ rfl (congrArg iI (rfl))

set_option maxRecDepth 100000 in
set_option maxHeartbeats 4000000 in
theorem c_X0_put {l : Launch} {D : va_G} {cI cZ cJ : ClassId} (cnt : Int) (ln : Int → Int) (dr : Int → Int) (pl : Int → Int) (B0 B1 B2 B3 : Nat) (b : Int) (x : Int) (hbt : 0 ≤ b ∧ b ≤ 9) : Dv l yX0_put wsX0_put 1 [.ref B0, .int (iI b), .int (iI x)] D (ty3 cI cZ cJ) (cFl cI cnt ln dr pl B0 B1 B2 B3) (cFl cI cnt ln dr (upZ pl b x) B0 B1 B2 B3) := by
  refine ct_v (plainFor_of_name (by decide)) rfl (Nat.le_of_ble_eq_true rfl) ?_
  intro p e s mI args below meth c_0 ls A hx hb hr hml hts hown hlocks hin hA hP hK hD hNW hS hl Q hQ
  have hown : s.vm.findClass RX0 = some mI.cls := hown
  have hl : lv_has ls 3 [(0, .ref B0), (1, .int (iI b)), (2, .int (iI x))] := hl
  have hin_X0 : ∀ w ∈ wsX00, w ∈ wsX0_put := by decide +kernel
  have hf_18 := hts (.fieldLink RX0 18 "LockStaircase$Fleet" "places" "[I") (by decide +kernel)
  refine lv_iload_n hx hb dX0_put_0 rfl (lv_at hl 1 rfl) ?_
  refine li_if_lt_f (tgt := 20) hx hb dX0_put_1 (by decide) (ib_i (by omega) (by omega)) (by omega) ?_
  refine lv_iload_n hx hb dX0_put_4 rfl (lv_at hl 1 rfl) ?_
  refine lv_aload_n hx hb dX0_put_5 rfl (lv_at hl 0 rfl) ?_
  refine li_get (ci := 0) (v := .ref B3) (C := RX0) (T := TX0) (N := 4) (q0 := 0) (k := 2) hx hb hts hin_X0 hown hK hP rfl rfl (by decide) hf_18 rfl rfl dX0_put_6 ?_
  refine li_alen (q0 := 3) (t0 := 0) (z := 10) hx hb hK hP rfl rfl (by omega) dX0_put_9 ?_
  refine li_icmp_ge_f (tgt := 20) hx hb dX0_put_10 (by decide) (ib_i (by omega) (by omega)) (by decide) (by omega) ?_
  refine lv_aload_n hx hb dX0_put_13 rfl (lv_at hl 0 rfl) ?_
  refine li_get (ci := 0) (v := .ref B3) (C := RX0) (T := TX0) (N := 4) (q0 := 0) (k := 2) hx hb hts hin_X0 hown hK hP rfl rfl (by decide) hf_18 rfl rfl dX0_put_14 ?_
  refine lv_iload_n hx hb dX0_put_17 rfl (lv_at hl 1 rfl) ?_
  refine lv_iload_n hx hb dX0_put_18 rfl (lv_at hl 2 rfl) ?_
  refine li_iast (q0 := 3) (t0 := 0) (g := pl) (w2 := cFl cI cnt ln dr (upZ pl b x) B0 B1 B2 B3) hx hb hK hP hD hS rfl rfl (by omega) (by omega) (ib_i (by omega) (by omega)) dX0_put_19 rfl (fun H locs hP hD hS => ?_)
  exact li_vret () hx hb hr hlocks hK hP hD hS dX0_put_20 hQ rfl trivial

set_option maxRecDepth 100000 in
set_option maxHeartbeats 4000000 in
theorem c_X0_add {l : Launch} {D : va_G} {cI cZ cJ : ClassId} (cnt : Int) (ln : Int → Int) (dr : Int → Int) (pl : Int → Int) (B0 B1 B2 B3 : Nat) (x : Int) (y : Int) (z : Int) (hcnt : 0 ≤ cnt ∧ cnt ≤ 9) : Di l yX0_add wsX0_add 1 [.ref B0, .int (iI x), .int (iI y), .int (iI z)] D (ty3 cI cZ cJ) (cFl cI cnt ln dr pl B0 B1 B2 B3) (cnt) (cFl cI (cnt + 1) (upZ ln cnt x) (upZ dr cnt y) (upZ pl cnt z) B0 B1 B2 B3) := by
  refine ct_i (plainFor_of_name (by decide)) rfl (Nat.le_of_ble_eq_true rfl) ?_
  intro p e s mI args below meth c_0 ls A hx hb hr hml hts hown hlocks hin hA hP hK hD hNW hS hl Q hQ
  have hown : s.vm.findClass RX0 = some mI.cls := hown
  have hl : lv_has ls 4 [(0, .ref B0), (1, .int (iI x)), (2, .int (iI y)), (3, .int (iI z))] := hl
  have hin_X0 : ∀ w ∈ wsX00, w ∈ wsX0_add := by decide +kernel
  have hf_15 := hts (.fieldLink RX0 15 "LockStaircase$Fleet" "draughts" "[I") (by decide +kernel)
  have hf_18 := hts (.fieldLink RX0 18 "LockStaircase$Fleet" "places" "[I") (by decide +kernel)
  have hf_27 := hts (.fieldLink RX0 27 "LockStaircase$Fleet" "count" "I") (by decide +kernel)
  have hf_9 := hts (.fieldLink RX0 9 "LockStaircase$Fleet" "lengths" "[I") (by decide +kernel)
  refine lv_aload_n hx hb dX0_add_0 rfl (lv_at hl 0 rfl) ?_
  refine li_get (ci := 0) (v := .int (iI cnt)) (C := RX0) (T := TX0) (N := 4) (q0 := 0) (k := 3) hx hb hts hin_X0 hown hK hP rfl rfl (by decide) hf_27 rfl rfl dX0_add_1 ?_
  refine li_if_lt_f (tgt := 16) hx hb dX0_add_4 (by decide) (ib_i (by omega) (by omega)) (by omega) ?_
  refine lv_aload_n hx hb dX0_add_7 rfl (lv_at hl 0 rfl) ?_
  refine li_get (ci := 0) (v := .int (iI cnt)) (C := RX0) (T := TX0) (N := 4) (q0 := 0) (k := 3) hx hb hts hin_X0 hown hK hP rfl rfl (by decide) hf_27 rfl rfl dX0_add_8 ?_
  refine li_bipush hx hb dX0_add_11 (by decide) ?_
  refine li_icmp_lt_t (tgt := 18) hx hb dX0_add_13 (by decide) (ib_i (by omega) (by omega)) (by decide) (by omega) ?_
  refine lv_aload_n hx hb dX0_add_18 rfl (lv_at hl 0 rfl) ?_
  refine li_get (ci := 0) (v := .ref B1) (C := RX0) (T := TX0) (N := 4) (q0 := 0) (k := 0) hx hb hts hin_X0 hown hK hP rfl rfl (by decide) hf_9 rfl rfl dX0_add_19 ?_
  refine lv_aload_n hx hb dX0_add_22 rfl (lv_at hl 0 rfl) ?_
  refine li_get (ci := 0) (v := .int (iI cnt)) (C := RX0) (T := TX0) (N := 4) (q0 := 0) (k := 3) hx hb hts hin_X0 hown hK hP rfl rfl (by decide) hf_27 rfl rfl dX0_add_23 ?_
  refine lv_iload_n hx hb dX0_add_26 rfl (lv_at hl 1 rfl) ?_
  refine li_iast (q0 := 1) (t0 := 0) (g := ln) (w2 := cFl cI cnt (upZ ln cnt x) dr pl B0 B1 B2 B3) hx hb hK hP hD hS rfl rfl (by omega) (by omega) (ib_i (by omega) (by omega)) dX0_add_27 rfl (fun H locs hP hD hS => ?_)
  refine lv_aload_n hx hb dX0_add_28 rfl (lv_at hl 0 rfl) ?_
  refine li_get (ci := 0) (v := .ref B2) (C := RX0) (T := TX0) (N := 4) (q0 := 0) (k := 1) hx hb hts hin_X0 hown hK hP rfl rfl (by decide) hf_15 rfl rfl dX0_add_29 ?_
  refine lv_aload_n hx hb dX0_add_32 rfl (lv_at hl 0 rfl) ?_
  refine li_get (ci := 0) (v := .int (iI cnt)) (C := RX0) (T := TX0) (N := 4) (q0 := 0) (k := 3) hx hb hts hin_X0 hown hK hP rfl rfl (by decide) hf_27 rfl rfl dX0_add_33 ?_
  refine lv_iload_n hx hb dX0_add_36 rfl (lv_at hl 2 rfl) ?_
  refine li_iast (q0 := 2) (t0 := 0) (g := dr) (w2 := cFl cI cnt (upZ ln cnt x) (upZ dr cnt y) pl B0 B1 B2 B3) hx hb hK hP hD hS rfl rfl (by omega) (by omega) (ib_i (by omega) (by omega)) dX0_add_37 rfl (fun H locs hP hD hS => ?_)
  refine lv_aload_n hx hb dX0_add_38 rfl (lv_at hl 0 rfl) ?_
  refine li_get (ci := 0) (v := .ref B3) (C := RX0) (T := TX0) (N := 4) (q0 := 0) (k := 2) hx hb hts hin_X0 hown hK hP rfl rfl (by decide) hf_18 rfl rfl dX0_add_39 ?_
  refine lv_aload_n hx hb dX0_add_42 rfl (lv_at hl 0 rfl) ?_
  refine li_get (ci := 0) (v := .int (iI cnt)) (C := RX0) (T := TX0) (N := 4) (q0 := 0) (k := 3) hx hb hts hin_X0 hown hK hP rfl rfl (by decide) hf_27 rfl rfl dX0_add_43 ?_
  refine lv_iload_n hx hb dX0_add_46 rfl (lv_at hl 3 rfl) ?_
  refine li_iast (q0 := 3) (t0 := 0) (g := pl) (w2 := cFl cI cnt (upZ ln cnt x) (upZ dr cnt y) (upZ pl cnt z) B0 B1 B2 B3) hx hb hK hP hD hS rfl rfl (by omega) (by omega) (ib_i (by omega) (by omega)) dX0_add_47 rfl (fun H locs hP hD hS => ?_)
  refine lv_aload_n hx hb dX0_add_48 rfl (lv_at hl 0 rfl) ?_
  refine lv_dup hx hb dX0_add_49 rfl ?_
  refine li_get (ci := 0) (v := .int (iI cnt)) (C := RX0) (T := TX0) (N := 4) (q0 := 0) (k := 3) hx hb hts hin_X0 hown hK hP rfl rfl (by decide) hf_27 rfl rfl dX0_add_50 ?_
  refine li_const hx hb dX0_add_53 ?_
  refine li_add hx hb dX0_add_54 ?_
  refine li_put (ci := 0) (v := .int (iI (cnt + 1))) (ty := .int) (C := RX0) (T := TX0) (N := 4) (q0 := 0) (k := 3) (w2 := cFl cI (cnt + 1) (upZ ln cnt x) (upZ dr cnt y) (upZ pl cnt z) B0 B1 B2 B3) hx hb hts hin_X0 tyX0_ok nmX0 hown hK hP hD hS rfl rfl (by decide) hf_27 rfl rfl (by decide +kernel) rfl rfl (Nat.le_of_ble_eq_true rfl) dX0_add_55 rfl (fun H locs hP hD hS => ?_)
  refine lv_aload_n hx hb dX0_add_58 rfl (lv_at hl 0 rfl) ?_
  refine li_get (ci := 0) (v := .int (iI (cnt + 1))) (C := RX0) (T := TX0) (N := 4) (q0 := 0) (k := 3) hx hb hts hin_X0 hown hK hP rfl rfl (by decide) hf_27 rfl rfl dX0_add_59 ?_
  refine li_const hx hb dX0_add_62 ?_
  refine li_sub hx hb dX0_add_63 ?_
  exact li_iret () hx hb hr hlocks hK hP hD hS dX0_add_64 hQ rfl (congrArg iI (by omega))

set_option maxRecDepth 100000 in
set_option maxHeartbeats 4000000 in
theorem c_X0_boatsIn {l : Launch} {D : va_G} {cI cZ cJ : ClassId} (cnt : Int) (ln : Int → Int) (dr : Int → Int) (pl : Int → Int) (B0 B1 B2 B3 : Nat) (x : Int) (hcnt : 0 ≤ cnt ∧ cnt ≤ 10) (hpl : plB pl) (hx9 : 0 ≤ x ∧ x ≤ 7) : Di l yX0_boatsIn wsX0_boatsIn 2 [.ref B0, .int (iI x)] D (ty3 cI cZ cJ) (cFl cI cnt ln dr pl B0 B1 B2 B3) (sumZ (cntP pl x) cnt.toNat) (cFl cI cnt ln dr pl B0 B1 B2 B3) := by
  refine ct_i (plainFor_of_name (by decide)) rfl (Nat.le_of_ble_eq_true rfl) ?_
  intro p e s mI args below meth c_0 ls A hx hb hr hml hts hown hlocks hin hA hP hK hD hNW hS hl Q hQ
  have hown : s.vm.findClass RX0 = some mI.cls := hown
  have hl : lv_has ls 4 [(0, .ref B0), (1, .int (iI x))] := hl
  have hin_X0 : ∀ w ∈ wsX00, w ∈ wsX0_boatsIn := by decide +kernel
  have hf_27 := hts (.fieldLink RX0 27 "LockStaircase$Fleet" "count" "I") (by decide +kernel)
  refine li_const hx hb dX0_boatsIn_0 ?_
  refine lv_istore_n (lv' := [(2, .int (iI 0)), (0, .ref B0), (1, .int (iI x))]) hx hb dX0_boatsIn_1 rfl hl (by decide) rfl (fun ls hl => ?_)
  refine li_const hx hb dX0_boatsIn_2 ?_
  refine lv_istore_n (lv' := [(3, .int (iI 0)), (2, .int (iI 0)), (0, .ref B0), (1, .int (iI x))]) hx hb dX0_boatsIn_3 rfl hl (by decide) rfl (fun ls hl => ?_)
  have loop_4 : ∀ (N : Nat) (j : Int) (sv : Int), (0 ≤ j ∧ j ≤ cnt) → (sv = sumZ (cntP pl x) j.toNat) → cnt - j < (N : Int) → ∀ (H : Heap) (locs : List Loc), va_P D vwCl (cFl cI cnt ln dr pl B0 B1 B2 B3) H → va_D A (cFl cI cnt ln dr pl B0 B1 B2 B3) → va_S A s.heap H locs → ∀ (ls : Array Slot), lv_has ls 4 [(3, .int (iI j)), (2, .int (iI sv)), (0, .ref B0), (1, .int (iI x))] → W p l e (rK 2 0 0) s mI args below meth c_0 H locs 0 0 Q (F0 mI 4 ls []) := by
    intro N
    induction N with
    | zero =>
      intro j sv hj hh hN
      exact absurd hN (by omega)
    | succ N ih =>
      intro j sv hj hh hN H locs hP hD hS ls hl
      have hp := hpl j
      refine lv_iload_n hx hb dX0_boatsIn_4 rfl (lv_at hl 0 rfl) ?_
      refine lv_aload_n hx hb dX0_boatsIn_5 rfl (lv_at hl 2 rfl) ?_
      refine li_get (ci := 0) (v := .int (iI cnt)) (C := RX0) (T := TX0) (N := 4) (q0 := 0) (k := 3) hx hb hts hin_X0 hown hK hP rfl rfl (by decide) hf_27 rfl rfl dX0_boatsIn_6 ?_
      refine li_icmp_ge (tgt := 30) hx hb dX0_boatsIn_9 (by decide) (ib_i (by omega) (by omega)) (ib_i (by omega) (by omega)) (fun c_9 => ?_) (fun c_9 => ?_)
      · refine lv_iload_n hx hb dX0_boatsIn_30 rfl (lv_at hl 1 rfl) ?_
        exact li_iret () hx hb hr hlocks hK hP hD hS dX0_boatsIn_31 hQ rfl (congrArg iI (by rw [hh, show j = cnt by omega]))
      · refine lv_aload_n hx hb dX0_boatsIn_12 rfl (lv_at hl 2 rfl) ?_
        refine lv_iload_n hx hb dX0_boatsIn_13 rfl (lv_at hl 0 rfl) ?_
        refine cl_i0 (isC := [0, 1, 2, 3]) (isR := []) (isN := [0, 1, 2, 3]) (wr := []) (wn := cFl cI cnt ln dr pl B0 B1 B2 B3) (As := [.int (iI j)]) (rest := []) (r := pl j) (ci := 0) (q0 := 0) ⟨hx, hb, hml, hown, hts⟩ (c_X0_placeAt cnt ln dr pl B0 B1 B2 B3 j (by first | assumption | omega)) (cwV 1 hts gX0_boatsIn_X0_placeAt rfl rfl rfl (by decide +kernel) ⟨Nat.le_of_ble_eq_true rfl, Nat.le_of_ble_eq_true rfl⟩) hK hNW hP hD hS hA rfl rfl rfl rfl (by decide) rfl rfl rfl rfl rfl rfl hl.1 rfl (Nat.le_of_ble_eq_true rfl) dX0_boatsIn_14 ⟨Nat.zero_le _, Nat.zero_le _⟩ (fun H locs hP hD hS => ?_)
        refine lv_iload_n hx hb dX0_boatsIn_17 rfl (lv_at hl 3 rfl) ?_
        refine li_icmp_ne (tgt := 24) hx hb dX0_boatsIn_18 (by decide) (ib_i (by omega) (by omega)) (ib_i (by omega) (by omega)) (fun c_18 => ?_) (fun c_18 => ?_)
        · refine li_inc (j := 0) (lv' := [(3, .int (iI (j + 1))), (2, .int (iI sv)), (0, .ref B0), (1, .int (iI x))]) hx hb dX0_boatsIn_24 hl rfl (by decide) rfl (fun ls hl => ?_)
          refine lv_goto (tgt := 4) hx hb dX0_boatsIn_27 (by decide) ?_
          exact ih (j + 1) sv (by omega) (by rw [sumZ_s _ hj.1]; first | (rw [show cntP pl x j = 1 from if_pos (by omega)]; omega) | (rw [show cntP pl x j = 0 from if_neg (by omega)]; omega)) (by omega) _ _ hP hD hS _ (lv_sub hl [0, 1, 2, 3] rfl)
        · refine li_inc (j := 1) (lv' := [(2, .int (iI (sv + 1))), (3, .int (iI j)), (0, .ref B0), (1, .int (iI x))]) hx hb dX0_boatsIn_21 hl rfl (by decide) rfl (fun ls hl => ?_)
          refine li_inc (j := 1) (lv' := [(3, .int (iI (j + 1))), (2, .int (iI (sv + 1))), (0, .ref B0), (1, .int (iI x))]) hx hb dX0_boatsIn_24 hl rfl (by decide) rfl (fun ls hl => ?_)
          refine lv_goto (tgt := 4) hx hb dX0_boatsIn_27 (by decide) ?_
          exact ih (j + 1) (sv + 1) (by omega) (by rw [sumZ_s _ hj.1]; first | (rw [show cntP pl x j = 1 from if_pos (by omega)]; omega) | (rw [show cntP pl x j = 0 from if_neg (by omega)]; omega)) (by omega) _ _ hP hD hS _ (lv_sub hl [0, 1, 2, 3] rfl)
  exact loop_4 (((cnt - 0) : Int) + 1).toNat 0 0 (by omega) (by rfl) (by omega) _ _ hP hD hS _ (lv_sub hl [0, 1, 2, 3] rfl)

set_option maxRecDepth 100000 in
set_option maxHeartbeats 4000000 in
theorem c_X0_lengthIn {l : Launch} {D : va_G} {cI cZ cJ : ClassId} (cnt : Int) (ln : Int → Int) (dr : Int → Int) (pl : Int → Int) (B0 B1 B2 B3 : Nat) (x : Int) (hcnt : 0 ≤ cnt ∧ cnt ≤ 10) (hpl : plB pl) (hx9 : 0 ≤ x ∧ x ≤ 7) : Di l yX0_lengthIn wsX0_lengthIn 2 [.ref B0, .int (iI x)] D (ty3 cI cZ cJ) (cFl cI cnt ln dr pl B0 B1 B2 B3) (sumZ (lenP pl ln x) cnt.toNat) (cFl cI cnt ln dr pl B0 B1 B2 B3) := by
  refine ct_i (plainFor_of_name (by decide)) rfl (Nat.le_of_ble_eq_true rfl) ?_
  intro p e s mI args below meth c_0 ls A hx hb hr hml hts hown hlocks hin hA hP hK hD hNW hS hl Q hQ
  have hown : s.vm.findClass RX0 = some mI.cls := hown
  have hl : lv_has ls 4 [(0, .ref B0), (1, .int (iI x))] := hl
  have hin_X0 : ∀ w ∈ wsX00, w ∈ wsX0_lengthIn := by decide +kernel
  have hf_27 := hts (.fieldLink RX0 27 "LockStaircase$Fleet" "count" "I") (by decide +kernel)
  refine li_const hx hb dX0_lengthIn_0 ?_
  refine lv_istore_n (lv' := [(2, .int (iI 0)), (0, .ref B0), (1, .int (iI x))]) hx hb dX0_lengthIn_1 rfl hl (by decide) rfl (fun ls hl => ?_)
  refine li_const hx hb dX0_lengthIn_2 ?_
  refine lv_istore_n (lv' := [(3, .int (iI 0)), (2, .int (iI 0)), (0, .ref B0), (1, .int (iI x))]) hx hb dX0_lengthIn_3 rfl hl (by decide) rfl (fun ls hl => ?_)
  have loop_4 : ∀ (N : Nat) (j : Int) (sv : Int), (0 ≤ j ∧ j ≤ cnt) → (sv = sumZ (lenP pl ln x) j.toNat) → cnt - j < (N : Int) → ∀ (H : Heap) (locs : List Loc), va_P D vwCl (cFl cI cnt ln dr pl B0 B1 B2 B3) H → va_D A (cFl cI cnt ln dr pl B0 B1 B2 B3) → va_S A s.heap H locs → ∀ (ls : Array Slot), lv_has ls 4 [(3, .int (iI j)), (2, .int (iI sv)), (0, .ref B0), (1, .int (iI x))] → W p l e (rK 2 0 0) s mI args below meth c_0 H locs 0 0 Q (F0 mI 4 ls []) := by
    intro N
    induction N with
    | zero =>
      intro j sv hj hh hN
      exact absurd hN (by omega)
    | succ N ih =>
      intro j sv hj hh hN H locs hP hD hS ls hl
      have hp := hpl j
      refine lv_iload_n hx hb dX0_lengthIn_4 rfl (lv_at hl 0 rfl) ?_
      refine lv_aload_n hx hb dX0_lengthIn_5 rfl (lv_at hl 2 rfl) ?_
      refine li_get (ci := 0) (v := .int (iI cnt)) (C := RX0) (T := TX0) (N := 4) (q0 := 0) (k := 3) hx hb hts hin_X0 hown hK hP rfl rfl (by decide) hf_27 rfl rfl dX0_lengthIn_6 ?_
      refine li_icmp_ge (tgt := 35) hx hb dX0_lengthIn_9 (by decide) (ib_i (by omega) (by omega)) (ib_i (by omega) (by omega)) (fun c_9 => ?_) (fun c_9 => ?_)
      · refine lv_iload_n hx hb dX0_lengthIn_35 rfl (lv_at hl 1 rfl) ?_
        exact li_iret () hx hb hr hlocks hK hP hD hS dX0_lengthIn_36 hQ rfl (congrArg iI (by rw [hh, show j = cnt by omega]))
      · refine lv_aload_n hx hb dX0_lengthIn_12 rfl (lv_at hl 2 rfl) ?_
        refine lv_iload_n hx hb dX0_lengthIn_13 rfl (lv_at hl 0 rfl) ?_
        refine cl_i0 (isC := [0, 1, 2, 3]) (isR := []) (isN := [0, 1, 2, 3]) (wr := []) (wn := cFl cI cnt ln dr pl B0 B1 B2 B3) (As := [.int (iI j)]) (rest := []) (r := pl j) (ci := 0) (q0 := 0) ⟨hx, hb, hml, hown, hts⟩ (c_X0_placeAt cnt ln dr pl B0 B1 B2 B3 j (by first | assumption | omega)) (cwV 1 hts gX0_lengthIn_X0_placeAt rfl rfl rfl (by decide +kernel) ⟨Nat.le_of_ble_eq_true rfl, Nat.le_of_ble_eq_true rfl⟩) hK hNW hP hD hS hA rfl rfl rfl rfl (by decide) rfl rfl rfl rfl rfl rfl hl.1 rfl (Nat.le_of_ble_eq_true rfl) dX0_lengthIn_14 ⟨Nat.zero_le _, Nat.zero_le _⟩ (fun H locs hP hD hS => ?_)
        refine lv_iload_n hx hb dX0_lengthIn_17 rfl (lv_at hl 3 rfl) ?_
        refine li_icmp_ne (tgt := 29) hx hb dX0_lengthIn_18 (by decide) (ib_i (by omega) (by omega)) (ib_i (by omega) (by omega)) (fun c_18 => ?_) (fun c_18 => ?_)
        · refine li_inc (j := 0) (lv' := [(3, .int (iI (j + 1))), (2, .int (iI sv)), (0, .ref B0), (1, .int (iI x))]) hx hb dX0_lengthIn_29 hl rfl (by decide) rfl (fun ls hl => ?_)
          refine lv_goto (tgt := 4) hx hb dX0_lengthIn_32 (by decide) ?_
          exact ih (j + 1) sv (by omega) (by rw [sumZ_s _ hj.1]; first | (rw [show lenP pl ln x j = ln j from if_pos (by omega)]; omega) | (rw [show lenP pl ln x j = 0 from if_neg (by omega)]; omega)) (by omega) _ _ hP hD hS _ (lv_sub hl [0, 1, 2, 3] rfl)
        · refine lv_iload_n hx hb dX0_lengthIn_21 rfl (lv_at hl 1 rfl) ?_
          refine lv_aload_n hx hb dX0_lengthIn_22 rfl (lv_at hl 2 rfl) ?_
          refine lv_iload_n hx hb dX0_lengthIn_23 rfl (lv_at hl 0 rfl) ?_
          refine cl_i0 (isC := [0, 1, 2, 3]) (isR := []) (isN := [0, 1, 2, 3]) (wr := []) (wn := cFl cI cnt ln dr pl B0 B1 B2 B3) (As := [.int (iI j)]) (rest := [.int (iI sv)]) (r := ln j) (ci := 0) (q0 := 0) ⟨hx, hb, hml, hown, hts⟩ (c_X0_lengthAt cnt ln dr pl B0 B1 B2 B3 j (by first | assumption | omega)) (cwV 1 hts gX0_lengthIn_X0_lengthAt rfl rfl rfl (by decide +kernel) ⟨Nat.le_of_ble_eq_true rfl, Nat.le_of_ble_eq_true rfl⟩) hK hNW hP hD hS hA rfl rfl rfl rfl (by decide) rfl rfl rfl rfl rfl rfl hl.1 rfl (Nat.le_of_ble_eq_true rfl) dX0_lengthIn_24 ⟨Nat.zero_le _, Nat.zero_le _⟩ (fun H locs hP hD hS => ?_)
          refine li_add hx hb dX0_lengthIn_27 ?_
          refine lv_istore_n (lv' := [(2, .int (iI (sv + (ln j)))), (3, .int (iI j)), (0, .ref B0), (1, .int (iI x))]) hx hb dX0_lengthIn_28 rfl hl (by decide) rfl (fun ls hl => ?_)
          refine li_inc (j := 1) (lv' := [(3, .int (iI (j + 1))), (2, .int (iI (sv + (ln j)))), (0, .ref B0), (1, .int (iI x))]) hx hb dX0_lengthIn_29 hl rfl (by decide) rfl (fun ls hl => ?_)
          refine lv_goto (tgt := 4) hx hb dX0_lengthIn_32 (by decide) ?_
          exact ih (j + 1) (sv + (ln j)) (by omega) (by rw [sumZ_s _ hj.1]; first | (rw [show lenP pl ln x j = ln j from if_pos (by omega)]; omega) | (rw [show lenP pl ln x j = 0 from if_neg (by omega)]; omega)) (by omega) _ _ hP hD hS _ (lv_sub hl [0, 1, 2, 3] rfl)
  exact loop_4 (((cnt - 0) : Int) + 1).toNat 0 0 (by omega) (by rfl) (by omega) _ _ hP hD hS _ (lv_sub hl [0, 1, 2, 3] rfl)

set_option maxRecDepth 100000 in
set_option maxHeartbeats 4000000 in
theorem c_X3_clear {l : Launch} {D : va_G} {cI cZ cJ : ClassId} (rp : Rt) (P0 : Nat)  : Dv l yX3_clear wsX3_clear 1 [.ref P0] D (ty3 cI cZ cJ) (cRp  rp P0) (cRp  (rp.1, rp.2.1, rp.2.2.1, -1) P0) := by
  refine ct_v (plainFor_of_name (by decide)) rfl (Nat.le_of_ble_eq_true rfl) ?_
  intro p e s mI args below meth c_0 ls A hx hb hr hml hts hown hlocks hin hA hP hK hD hNW hS hl Q hQ
  have hown : s.vm.findClass RX3 = some mI.cls := hown
  have hl : lv_has ls 1 [(0, .ref P0)] := hl
  have hin_X3 : ∀ w ∈ wsX30, w ∈ wsX3_clear := by decide +kernel
  have hf_18 := hts (.fieldLink RX3 18 "LockStaircase$Report" "reason" "I") (by decide +kernel)
  refine lv_aload_n hx hb dX3_clear_0 rfl (lv_at hl 0 rfl) ?_
  refine li_const hx hb dX3_clear_1 ?_
  refine li_put (ci := 3) (v := .int (iI (-1))) (ty := .int) (C := RX3) (T := TX3) (N := 4) (q0 := 0) (k := 3) (w2 := cRp  (rp.1, rp.2.1, rp.2.2.1, (-1)) P0) hx hb hts hin_X3 tyX3_ok nmX3 hown hK hP hD hS rfl rfl (by decide) hf_18 rfl rfl (by decide +kernel) rfl rfl (Nat.le_of_ble_eq_true rfl) dX3_clear_2 rfl (fun H locs hP hD hS => ?_)
  exact li_vret () hx hb hr hlocks hK hP hD hS dX3_clear_5 hQ rfl trivial

set_option maxRecDepth 100000 in
set_option maxHeartbeats 4000000 in
theorem c_X3_fail {l : Launch} {D : va_G} {cI cZ cJ : ClassId} (rp : Rt) (P0 : Nat) (g : Int) (f : Int) (y : Int)  : Dv l yX3_fail wsX3_fail 1 [.ref P0, .int (iI g), .int (iI f), .int (iI y)] D (ty3 cI cZ cJ) (cRp  rp P0) (cRp  (g, g - 1, f, y) P0) := by
  refine ct_v (plainFor_of_name (by decide)) rfl (Nat.le_of_ble_eq_true rfl) ?_
  intro p e s mI args below meth c_0 ls A hx hb hr hml hts hown hlocks hin hA hP hK hD hNW hS hl Q hQ
  have hown : s.vm.findClass RX3 = some mI.cls := hown
  have hl : lv_has ls 4 [(0, .ref P0), (1, .int (iI g)), (2, .int (iI f)), (3, .int (iI y))] := hl
  have hin_X3 : ∀ w ∈ wsX30, w ∈ wsX3_fail := by decide +kernel
  have hf_15 := hts (.fieldLink RX3 15 "LockStaircase$Report" "lowestChamber" "I") (by decide +kernel)
  have hf_18 := hts (.fieldLink RX3 18 "LockStaircase$Report" "reason" "I") (by decide +kernel)
  have hf_21 := hts (.fieldLink RX3 21 "LockStaircase$Report" "failedChambers" "I") (by decide +kernel)
  have hf_9 := hts (.fieldLink RX3 9 "LockStaircase$Report" "gate" "I") (by decide +kernel)
  refine lv_aload_n hx hb dX3_fail_0 rfl (lv_at hl 0 rfl) ?_
  refine lv_iload_n hx hb dX3_fail_1 rfl (lv_at hl 1 rfl) ?_
  refine li_put (ci := 3) (v := .int (iI g)) (ty := .int) (C := RX3) (T := TX3) (N := 4) (q0 := 0) (k := 0) (w2 := cRp  (g, rp.2.1, rp.2.2.1, rp.2.2.2) P0) hx hb hts hin_X3 tyX3_ok nmX3 hown hK hP hD hS rfl rfl (by decide) hf_9 rfl rfl (by decide +kernel) rfl rfl (Nat.le_of_ble_eq_true rfl) dX3_fail_2 rfl (fun H locs hP hD hS => ?_)
  refine lv_aload_n hx hb dX3_fail_5 rfl (lv_at hl 0 rfl) ?_
  refine lv_iload_n hx hb dX3_fail_6 rfl (lv_at hl 1 rfl) ?_
  refine li_const hx hb dX3_fail_7 ?_
  refine li_sub hx hb dX3_fail_8 ?_
  refine li_put (ci := 3) (v := .int (iI (g - 1))) (ty := .int) (C := RX3) (T := TX3) (N := 4) (q0 := 0) (k := 1) (w2 := cRp  (g, g - 1, rp.2.2.1, rp.2.2.2) P0) hx hb hts hin_X3 tyX3_ok nmX3 hown hK hP hD hS rfl rfl (by decide) hf_15 rfl rfl (by decide +kernel) rfl rfl (Nat.le_of_ble_eq_true rfl) dX3_fail_9 rfl (fun H locs hP hD hS => ?_)
  refine lv_aload_n hx hb dX3_fail_12 rfl (lv_at hl 0 rfl) ?_
  refine lv_iload_n hx hb dX3_fail_13 rfl (lv_at hl 2 rfl) ?_
  refine li_put (ci := 3) (v := .int (iI f)) (ty := .int) (C := RX3) (T := TX3) (N := 4) (q0 := 0) (k := 2) (w2 := cRp  (g, g - 1, f, rp.2.2.2) P0) hx hb hts hin_X3 tyX3_ok nmX3 hown hK hP hD hS rfl rfl (by decide) hf_21 rfl rfl (by decide +kernel) rfl rfl (Nat.le_of_ble_eq_true rfl) dX3_fail_14 rfl (fun H locs hP hD hS => ?_)
  refine lv_aload_n hx hb dX3_fail_17 rfl (lv_at hl 0 rfl) ?_
  refine lv_iload_n hx hb dX3_fail_18 rfl (lv_at hl 3 rfl) ?_
  refine li_put (ci := 3) (v := .int (iI y)) (ty := .int) (C := RX3) (T := TX3) (N := 4) (q0 := 0) (k := 3) (w2 := cRp  (g, g - 1, f, y) P0) hx hb hts hin_X3 tyX3_ok nmX3 hown hK hP hD hS rfl rfl (by decide) hf_18 rfl rfl (by decide +kernel) rfl rfl (Nat.le_of_ble_eq_true rfl) dX3_fail_19 rfl (fun H locs hP hD hS => ?_)
  exact li_vret () hx hb hr hlocks hK hP hD hS dX3_fail_22 hQ rfl trivial

set_option maxRecDepth 100000 in
set_option maxHeartbeats 4000000 in
theorem c_X3_size {l : Launch} {D : va_G} {cI cZ cJ : ClassId} (rp : Rt) (P0 : Nat) (hrp : RI rp) : Di l yX3_size wsX3_size 1 [.ref P0] D (ty3 cI cZ cJ) (cRp  rp P0) (rpS rp) (cRp  rp P0) := by
  refine ct_i (plainFor_of_name (by decide)) rfl (Nat.le_of_ble_eq_true rfl) ?_
  intro p e s mI args below meth c_0 ls A hx hb hr hml hts hown hlocks hin hA hP hK hD hNW hS hl Q hQ
  have hown : s.vm.findClass RX3 = some mI.cls := hown
  have hl : lv_has ls 1 [(0, .ref P0)] := hl
  have hin_X3 : ∀ w ∈ wsX30, w ∈ wsX3_size := by decide +kernel
  have hf_18 := hts (.fieldLink RX3 18 "LockStaircase$Report" "reason" "I") (by decide +kernel)
  have hf_21 := hts (.fieldLink RX3 21 "LockStaircase$Report" "failedChambers" "I") (by decide +kernel)
  have hr1 : (-1 ≤ rp.1 ∧ rp.1 ≤ 7) ∧ (-2 ≤ rp.2.1 ∧ rp.2.1 ≤ 7) ∧ (0 ≤ rp.2.2.1 ∧ rp.2.2.1 ≤ 8) ∧ (-1 ≤ rp.2.2.2 ∧ rp.2.2.2 ≤ 5) := hrp
  refine lv_aload_n hx hb dX3_size_0 rfl (lv_at hl 0 rfl) ?_
  refine li_get (ci := 3) (v := .int (iI rp.2.2.2)) (C := RX3) (T := TX3) (N := 4) (q0 := 0) (k := 3) hx hb hts hin_X3 hown hK hP rfl rfl (by decide) hf_18 rfl rfl dX3_size_1 ?_
  refine li_const hx hb dX3_size_4 ?_
  refine li_icmp_ne (tgt := 12) hx hb dX3_size_5 (by decide) (ib_i (by omega) (by omega)) (by decide) (fun c_5 => ?_) (fun c_5 => ?_)
  · refine lv_aload_n hx hb dX3_size_12 rfl (lv_at hl 0 rfl) ?_
    refine li_get (ci := 3) (v := .int (iI rp.2.2.1)) (C := RX3) (T := TX3) (N := 4) (q0 := 0) (k := 2) hx hb hts hin_X3 hown hK hP rfl rfl (by decide) hf_21 rfl rfl dX3_size_13 ?_
    refine li_const hx hb dX3_size_16 ?_
    refine li_add hx hb dX3_size_17 ?_
    exact li_iret () hx hb hr hlocks hK hP hD hS dX3_size_18 hQ rfl (congrArg iI (by unfold rpS; first | rw [if_pos (by omega)] | rw [if_neg (by omega)]))
  · refine li_const hx hb dX3_size_8 ?_
    refine lv_goto (tgt := 18) hx hb dX3_size_9 (by decide) ?_
    exact li_iret () hx hb hr hlocks hK hP hD hS dX3_size_18 hQ rfl (congrArg iI (by unfold rpS; first | rw [if_pos (by omega)] | rw [if_neg (by omega)]))

set_option maxRecDepth 100000 in
set_option maxHeartbeats 4000000 in
theorem c_X3_kindOf {l : Launch} {D : va_G} {cI cZ cJ : ClassId} (rp : Rt) (P0 : Nat) (i : Int) (hrp : RI rp) (i_i : -2147483648 ≤ i ∧ i < 2147483648) : Di l yX3_kindOf wsX3_kindOf 2 [.ref P0, .int (iI i)] D (ty3 cI cZ cJ) (cRp  rp P0) (rpK rp i) (cRp  rp P0) := by
  refine ct_i (plainFor_of_name (by decide)) rfl (Nat.le_of_ble_eq_true rfl) ?_
  intro p e s mI args below meth c_0 ls A hx hb hr hml hts hown hlocks hin hA hP hK hD hNW hS hl Q hQ
  have hown : s.vm.findClass RX3 = some mI.cls := hown
  have hl : lv_has ls 2 [(0, .ref P0), (1, .int (iI i))] := hl
  have hin_X3 : ∀ w ∈ wsX30, w ∈ wsX3_kindOf := by decide +kernel
  have hf_18 := hts (.fieldLink RX3 18 "LockStaircase$Report" "reason" "I") (by decide +kernel)
  have hf_21 := hts (.fieldLink RX3 21 "LockStaircase$Report" "failedChambers" "I") (by decide +kernel)
  have hr1 : (-1 ≤ rp.1 ∧ rp.1 ≤ 7) ∧ (-2 ≤ rp.2.1 ∧ rp.2.1 ≤ 7) ∧ (0 ≤ rp.2.2.1 ∧ rp.2.2.1 ≤ 8) ∧ (-1 ≤ rp.2.2.2 ∧ rp.2.2.2 ≤ 5) := hrp
  have hs1 : 0 ≤ rpS rp ∧ rpS rp ≤ 10 := by unfold rpS; split <;> omega
  refine lv_iload_n hx hb dX3_kindOf_0 rfl (lv_at hl 1 rfl) ?_
  refine li_if_lt (tgt := 12) hx hb dX3_kindOf_1 (by decide) (ib_i (by omega) (by omega)) (fun c_1 => ?_) (fun c_1 => ?_)
  · refine li_const hx hb dX3_kindOf_12 ?_
    exact li_iret () hx hb hr hlocks hK hP hD hS dX3_kindOf_13 hQ rfl (congrArg iI (by unfold rpK; repeat (first | rw [if_pos (by omega)] | rw [if_neg (by omega)])))
  · refine lv_iload_n hx hb dX3_kindOf_4 rfl (lv_at hl 1 rfl) ?_
    refine lv_aload_n hx hb dX3_kindOf_5 rfl (lv_at hl 0 rfl) ?_
    refine cl_i0 (isC := [0]) (isR := []) (isN := [0]) (wr := []) (wn := cRp  rp P0) (As := []) (rest := [.int (iI i)]) (r := rpS rp) (ci := 3) (q0 := 0) ⟨hx, hb, hml, hown, hts⟩ (c_X3_size rp P0 (by first | assumption | omega)) (cwV 0 hts gX3_kindOf_X3_size rfl rfl rfl (by decide +kernel) ⟨Nat.le_of_ble_eq_true rfl, Nat.le_of_ble_eq_true rfl⟩) hK hNW hP hD hS hA rfl rfl rfl rfl (by decide) rfl rfl rfl rfl rfl rfl hl.1 rfl (Nat.le_of_ble_eq_true rfl) dX3_kindOf_6 ⟨Nat.zero_le _, Nat.zero_le _⟩ (fun H locs hP hD hS => ?_)
    refine li_icmp_lt (tgt := 14) hx hb dX3_kindOf_9 (by decide) (ib_i (by omega) (by omega)) (ib_i (by omega) (by omega)) (fun c_9 => ?_) (fun c_9 => ?_)
    · refine lv_iload_n hx hb dX3_kindOf_14 rfl (lv_at hl 1 rfl) ?_
      refine li_if_ne (tgt := 21) hx hb dX3_kindOf_15 (by decide) (ib_i (by omega) (by omega)) (fun c_15 => ?_) (fun c_15 => ?_)
      · refine lv_iload_n hx hb dX3_kindOf_21 rfl (lv_at hl 1 rfl) ?_
        refine lv_aload_n hx hb dX3_kindOf_22 rfl (lv_at hl 0 rfl) ?_
        refine li_get (ci := 3) (v := .int (iI rp.2.2.1)) (C := RX3) (T := TX3) (N := 4) (q0 := 0) (k := 2) hx hb hts hin_X3 hown hK hP rfl rfl (by decide) hf_21 rfl rfl dX3_kindOf_23 ?_
        refine li_icmp_gt (tgt := 34) hx hb dX3_kindOf_26 (by decide) (ib_i (by omega) (by omega)) (ib_i (by omega) (by omega)) (fun c_26 => ?_) (fun c_26 => ?_)
        · refine lv_aload_n hx hb dX3_kindOf_34 rfl (lv_at hl 0 rfl) ?_
          refine li_get (ci := 3) (v := .int (iI rp.2.2.2)) (C := RX3) (T := TX3) (N := 4) (q0 := 0) (k := 3) hx hb hts hin_X3 hown hK hP rfl rfl (by decide) hf_18 rfl rfl dX3_kindOf_35 ?_
          exact li_iret () hx hb hr hlocks hK hP hD hS dX3_kindOf_38 hQ rfl (congrArg iI (by unfold rpK; repeat (first | rw [if_pos (by omega)] | rw [if_neg (by omega)])))
        · refine li_bipush hx hb dX3_kindOf_29 (by decide) ?_
          refine lv_goto (tgt := 38) hx hb dX3_kindOf_31 (by decide) ?_
          exact li_iret () hx hb hr hlocks hK hP hD hS dX3_kindOf_38 hQ rfl (congrArg iI (by unfold rpK; repeat (first | rw [if_pos (by omega)] | rw [if_neg (by omega)])))
      · refine li_bipush hx hb dX3_kindOf_18 (by decide) ?_
        exact li_iret () hx hb hr hlocks hK hP hD hS dX3_kindOf_20 hQ rfl (congrArg iI (by unfold rpK; repeat (first | rw [if_pos (by omega)] | rw [if_neg (by omega)])))
    · refine li_const hx hb dX3_kindOf_12 ?_
      exact li_iret () hx hb hr hlocks hK hP hD hS dX3_kindOf_13 hQ rfl (congrArg iI (by unfold rpK; repeat (first | rw [if_pos (by omega)] | rw [if_neg (by omega)])))

set_option maxRecDepth 100000 in
set_option maxHeartbeats 4000000 in
theorem c_X3_numberOf {l : Launch} {D : va_G} {cI cZ cJ : ClassId} (rp : Rt) (P0 : Nat) (i : Int) (hrp : RI rp) (i_i : -2147483648 ≤ i ∧ i < 2147483648) : Di l yX3_numberOf wsX3_numberOf 3 [.ref P0, .int (iI i)] D (ty3 cI cZ cJ) (cRp  rp P0) (rpN rp i) (cRp  rp P0) := by
  refine ct_i (plainFor_of_name (by decide)) rfl (Nat.le_of_ble_eq_true rfl) ?_
  intro p e s mI args below meth c_0 ls A hx hb hr hml hts hown hlocks hin hA hP hK hD hNW hS hl Q hQ
  have hown : s.vm.findClass RX3 = some mI.cls := hown
  have hl : lv_has ls 3 [(0, .ref P0), (1, .int (iI i))] := hl
  have hin_X3 : ∀ w ∈ wsX30, w ∈ wsX3_numberOf := by decide +kernel
  have hf_15 := hts (.fieldLink RX3 15 "LockStaircase$Report" "lowestChamber" "I") (by decide +kernel)
  have hf_9 := hts (.fieldLink RX3 9 "LockStaircase$Report" "gate" "I") (by decide +kernel)
  have hr1 : (-1 ≤ rp.1 ∧ rp.1 ≤ 7) ∧ (-2 ≤ rp.2.1 ∧ rp.2.1 ≤ 7) ∧ (0 ≤ rp.2.2.1 ∧ rp.2.2.1 ≤ 8) ∧ (-1 ≤ rp.2.2.2 ∧ rp.2.2.2 ≤ 5) := hrp
  have hs1 : 0 ≤ rpS rp ∧ rpS rp ≤ 10 := by unfold rpS; split <;> omega
  have hk1 : -1 ≤ rpK rp i ∧ rpK rp i ≤ 7 := by unfold rpK; (repeat' split) <;> omega
  refine lv_aload_n hx hb dX3_numberOf_0 rfl (lv_at hl 0 rfl) ?_
  refine lv_iload_n hx hb dX3_numberOf_1 rfl (lv_at hl 1 rfl) ?_
  refine cl_i0 (isC := [0]) (isR := []) (isN := [0]) (wr := []) (wn := cRp  rp P0) (As := [.int (iI i)]) (rest := []) (r := rpK rp i) (ci := 3) (q0 := 0) ⟨hx, hb, hml, hown, hts⟩ (c_X3_kindOf rp P0 i (by first | assumption | omega) (by first | assumption | omega)) (cwV 1 hts gX3_numberOf_X3_kindOf rfl rfl rfl (by decide +kernel) ⟨Nat.le_of_ble_eq_true rfl, Nat.le_of_ble_eq_true rfl⟩) hK hNW hP hD hS hA rfl rfl rfl rfl (by decide) rfl rfl rfl rfl rfl rfl hl.1 rfl (Nat.le_of_ble_eq_true rfl) dX3_numberOf_2 ⟨Nat.zero_le _, Nat.zero_le _⟩ (fun H locs hP hD hS => ?_)
  refine lv_istore_n (lv' := [(2, .int (iI (rpK rp i))), (0, .ref P0), (1, .int (iI i))]) hx hb dX3_numberOf_5 rfl hl (by decide) rfl (fun ls hl => ?_)
  refine lv_iload_n hx hb dX3_numberOf_6 rfl (lv_at hl 0 rfl) ?_
  refine li_bipush hx hb dX3_numberOf_7 (by decide) ?_
  refine li_icmp_ne (tgt := 17) hx hb dX3_numberOf_9 (by decide) (ib_i (by omega) (by omega)) (by decide) (fun c_9 => ?_) (fun c_9 => ?_)
  · refine lv_iload_n hx hb dX3_numberOf_17 rfl (lv_at hl 0 rfl) ?_
    refine li_bipush hx hb dX3_numberOf_18 (by decide) ?_
    refine li_icmp_ne (tgt := 34) hx hb dX3_numberOf_20 (by decide) (ib_i (by omega) (by omega)) (by decide) (fun c_20 => ?_) (fun c_20 => ?_)
    · refine li_const hx hb dX3_numberOf_34 ?_
      exact li_iret () hx hb hr hlocks hK hP hD hS dX3_numberOf_35 hQ rfl (congrArg iI (by unfold rpN; repeat (first | rw [if_pos (by omega)] | rw [if_neg (by omega)])))
    · refine lv_aload_n hx hb dX3_numberOf_23 rfl (lv_at hl 1 rfl) ?_
      refine li_get (ci := 3) (v := .int (iI rp.2.1)) (C := RX3) (T := TX3) (N := 4) (q0 := 0) (k := 1) hx hb hts hin_X3 hown hK hP rfl rfl (by decide) hf_15 rfl rfl dX3_numberOf_24 ?_
      refine lv_iload_n hx hb dX3_numberOf_27 rfl (lv_at hl 2 rfl) ?_
      refine li_add hx hb dX3_numberOf_28 ?_
      refine li_const hx hb dX3_numberOf_29 ?_
      refine li_sub hx hb dX3_numberOf_30 ?_
      refine lv_goto (tgt := 35) hx hb dX3_numberOf_31 (by decide) ?_
      exact li_iret () hx hb hr hlocks hK hP hD hS dX3_numberOf_35 hQ rfl (congrArg iI (by unfold rpN; repeat (first | rw [if_pos (by omega)] | rw [if_neg (by omega)])))
  · refine lv_aload_n hx hb dX3_numberOf_12 rfl (lv_at hl 1 rfl) ?_
    refine li_get (ci := 3) (v := .int (iI rp.1)) (C := RX3) (T := TX3) (N := 4) (q0 := 0) (k := 0) hx hb hts hin_X3 hown hK hP rfl rfl (by decide) hf_9 rfl rfl dX3_numberOf_13 ?_
    exact li_iret () hx hb hr hlocks hK hP hD hS dX3_numberOf_16 hQ rfl (congrArg iI (by unfold rpN; repeat (first | rw [if_pos (by omega)] | rw [if_neg (by omega)])))
