set_option maxRecDepth 100000 in
set_option maxHeartbeats 4000000 in
theorem cr_X4_raise {l : Launch} {D : va_G} {cI cZ cJ : ClassId} : ∀ (d : Nat) (n : Int) (L : Int) (a : Int) (gd : Int) (w : Wt) (W0 W1 : Nat) (t : Int) (c : Int) (tg : Int) (hn : 1 ≤ n ∧ n ≤ 6) (hL : 5 ≤ L ∧ L ≤ 40) (ha : 1 ≤ a ∧ a ≤ 50) (hw : WI n L a w) (hc : 0 ≤ c ∧ c < n) (ht : 0 ≤ t ∧ t ≤ L) (htg : tg = c * L + t) (hd : (n - 1 - c).toNat = d), Di l yX4_raise wsX4_raise (8 + d) [.ref W0, .int (iI c), .int (iI tg)] D (ty3 cI cZ cJ) (cWa cI n L a gd w W0 W1) (bz ((raM n L a d c t w).1 = true)) (cWa cI n L a gd ((raM n L a d c t w).2) W0 W1) := by
  intro d
  induction d using Nat.strongRecOn with
  | ind d ihd =>
  intro n L a gd w W0 W1 t c tg hn hL ha hw hc ht htg hd
  refine ct_i (plainFor_of_name (by decide)) rfl (Nat.le_of_ble_eq_true rfl) ?_
  intro p e s mI args below meth c_0 ls A hx hb hr hml hts hown hlocks hin hA hP hK hD hNW hS hl Q hQ
  have hown : s.vm.findClass RX4 = some mI.cls := hown
  have hl : lv_has ls 5 [(0, .ref W0), (1, .int (iI c)), (2, .int (iI tg))] := hl
  have hin_X4 : ∀ w ∈ wsX40, w ∈ wsX4_raise := by decide +kernel
  have hf_22 := hts (.fieldLink RX4 22 "LockStaircase$Water" "levels" "[I") (by decide +kernel)
  have e1 := lvA_c (L := L) (a := a) (w := w) hc.1 hc.2
  have u1 := hw.2 c hc.1 hc.2
  have m1 := mu_b (g := c) (by omega) (by omega) hL
  have m3 := mu_1 c L
  refine lv_aload_n hx hb dX4_raise_0 rfl (lv_at hl 0 rfl) ?_
  refine lv_ifnull hx hb dX4_raise_1 ?_
  refine lv_iload_n hx hb dX4_raise_4 rfl (lv_at hl 1 rfl) ?_
  refine li_if_lt_f (tgt := 17) hx hb dX4_raise_5 (by decide) (ib_i (by omega) (by omega)) (by omega) ?_
  refine lv_iload_n hx hb dX4_raise_8 rfl (lv_at hl 1 rfl) ?_
  refine lv_aload_n hx hb dX4_raise_9 rfl (lv_at hl 0 rfl) ?_
  refine li_get (ci := 4) (v := .ref W1) (C := RX4) (T := TX4) (N := 8) (q0 := 0) (k := 2) hx hb hts hin_X4 hown hK hP rfl rfl (by decide) hf_22 rfl rfl dX4_raise_10 ?_
  refine li_alen (q0 := 1) (t0 := 0) (z := n) hx hb hK hP rfl rfl (by omega) dX4_raise_13 ?_
  refine li_icmp_lt_t (tgt := 19) hx hb dX4_raise_14 (by decide) (ib_i (by omega) (by omega)) (ib_i (by omega) (by omega)) (by omega) ?_
  refine lv_iload_n hx hb dX4_raise_19 rfl (lv_at hl 2 rfl) ?_
  refine lv_aload_n hx hb dX4_raise_20 rfl (lv_at hl 0 rfl) ?_
  refine lv_iload_n hx hb dX4_raise_21 rfl (lv_at hl 1 rfl) ?_
  refine cl_i0 (isC := [0, 1]) (isR := []) (isN := [0, 1]) (wr := []) (wn := cWa cI n L a gd w W0 W1) (As := [.int (iI c)]) (rest := [.int (iI tg)]) (r := lvA n L a w c) (ci := 4) (q0 := 0) ⟨hx, hb, hml, hown, hts⟩ (c_X4_levelAt n L a gd w W0 W1 c (by first | assumption | omega) (by first | assumption | omega) (by first | assumption | omega) (by first | assumption | omega) (by first | assumption | omega)) (cwV 1 hts gX4_raise_X4_levelAt rfl rfl rfl (by decide +kernel) ⟨by dsimp only [rK]; omega, by dsimp only [rK]; omega⟩) hK hNW hP hD hS hA rfl rfl rfl rfl (by decide) rfl rfl rfl rfl rfl rfl hl.1 rfl (Nat.le_of_ble_eq_true rfl) dX4_raise_22 ⟨Nat.zero_le _, Nat.zero_le _⟩ (fun H locs hP hD hS => ?_)
  refine li_sub hx hb dX4_raise_25 ?_
  refine li_top (b := t - w.2.2.2 c) (by omega) ?_
  refine lv_istore_n (lv' := [(3, .int (iI (t - w.2.2.2 c))), (0, .ref W0), (1, .int (iI c)), (2, .int (iI tg))]) hx hb dX4_raise_26 rfl hl (by decide) rfl (fun ls hl => ?_)
  refine lv_iload_n hx hb dX4_raise_27 rfl (lv_at hl 0 rfl) ?_
  refine li_if_gt (tgt := 33) hx hb dX4_raise_28 (by decide) (ib_i (by omega) (by omega)) (fun c_28 => ?_) (fun c_28 => ?_)
  · refine lv_iload_n hx hb dX4_raise_33 rfl (lv_at hl 2 rfl) ?_
    refine li_const hx hb dX4_raise_34 ?_
    refine li_add hx hb dX4_raise_35 ?_
    refine lv_istore (lv' := [(4, .int (iI (c + 1))), (3, .int (iI (t - w.2.2.2 c))), (0, .ref W0), (1, .int (iI c)), (2, .int (iI tg))]) hx hb dX4_raise_36 hl (by decide) rfl (fun ls hl => ?_)
    refine lv_iload hx hb dX4_raise_38 (lv_at hl 0 rfl) ?_
    refine lv_aload_n hx hb dX4_raise_40 rfl (lv_at hl 2 rfl) ?_
    refine li_get (ci := 4) (v := .ref W1) (C := RX4) (T := TX4) (N := 8) (q0 := 0) (k := 2) hx hb hts hin_X4 hown hK hP rfl rfl (by decide) hf_22 rfl rfl dX4_raise_41 ?_
    refine li_alen (q0 := 1) (t0 := 0) (z := n) hx hb hK hP rfl rfl (by omega) dX4_raise_44 ?_
    refine li_icmp_ge (tgt := 67) hx hb dX4_raise_45 (by decide) (ib_i (by omega) (by omega)) (ib_i (by omega) (by omega)) (fun c_45 => ?_) (fun c_45 => ?_)
    · have hw3 : WI n L a w := by first | exact hw | exact raM_WI hn hL ha _ _ _ _ (by omega) (by omega) hw
      have hw4 := rnW_WI hn hL ha (show 0 ≤ c + 1 ∧ c + 1 ≤ n by omega) (t - w.2.2.2 c).toNat hw3
      have hk62 : c + 1 < n → (raM n L a (d - 1) (c + 1) (t - w.2.2.2 c) w).1 = true := by
        intro h9
        first | exact c_62 | (exfalso; omega)
      refine lv_aload_n hx hb dX4_raise_67 rfl (lv_at hl 2 rfl) ?_
      refine lv_iload hx hb dX4_raise_68 (lv_at hl 0 rfl) ?_
      refine lv_iload_n hx hb dX4_raise_70 rfl (lv_at hl 1 rfl) ?_
      refine cl_v0 (isC := [0, 1]) (isR := []) (isN := [0, 1]) (wr := []) (wn := cWa cI n L a gd (rnW n L a (c + 1) (t - w.2.2.2 c).toNat w) W0 W1) (As := [.int (iI (c + 1)), .int (iI (t - w.2.2.2 c))]) (rest := []) (ci := 4) (q0 := 0) ⟨hx, hb, hml, hown, hts⟩ (c_X4_runSluice n L a gd w W0 W1 (c + 1) (t - w.2.2.2 c) (by first | assumption | omega) (by first | assumption | omega) (by first | assumption | omega) (by exact hw3) (by first | assumption | omega) (by first | assumption | omega)) (cwV 2 hts gX4_raise_X4_runSluice rfl rfl rfl (by decide +kernel) ⟨by dsimp only [rK]; omega, by dsimp only [rK]; omega⟩) hK hNW hP hD hS hA rfl rfl rfl rfl (by decide) rfl rfl rfl rfl rfl rfl hl.1 rfl (Nat.le_of_ble_eq_true rfl) dX4_raise_71 ⟨Nat.zero_le _, Nat.zero_le _⟩ (fun H locs hP hD hS => ?_)
      refine lv_aload_n hx hb dX4_raise_74 rfl (lv_at hl 2 rfl) ?_
      refine lv_iload_n hx hb dX4_raise_75 rfl (lv_at hl 3 rfl) ?_
      refine cl_i0 (isC := [0, 1]) (isR := []) (isN := [0, 1]) (wr := []) (wn := cWa cI n L a gd (rnW n L a (c + 1) (t - w.2.2.2 c).toNat w) W0 W1) (As := [.int (iI c)]) (rest := []) (r := lvA n L a (rnW n L a (c + 1) (t - w.2.2.2 c).toNat w) c) (ci := 4) (q0 := 0) ⟨hx, hb, hml, hown, hts⟩ (c_X4_levelAt n L a gd (rnW n L a (c + 1) (t - w.2.2.2 c).toNat w) W0 W1 c (by first | assumption | omega) (by first | assumption | omega) (by first | assumption | omega) (by exact hw4) (by first | assumption | omega)) (cwV 1 hts gX4_raise_X4_levelAt rfl rfl rfl (by decide +kernel) ⟨by dsimp only [rK]; omega, by dsimp only [rK]; omega⟩) hK hNW hP hD hS hA rfl rfl rfl rfl (by decide) rfl rfl rfl rfl rfl rfl hl.1 rfl (Nat.le_of_ble_eq_true rfl) dX4_raise_76 ⟨Nat.zero_le _, Nat.zero_le _⟩ (fun H locs hP hD hS => ?_)
      have e3 := lvA_c (L := L) (a := a) (w := (rnW n L a (c + 1) (t - w.2.2.2 c).toNat w)) hc.1 hc.2
      have u3 := hw4.2 c hc.1 hc.2
      refine lv_iload_n hx hb dX4_raise_79 rfl (lv_at hl 4 rfl) ?_
      refine li_icmp_lt (tgt := 87) hx hb dX4_raise_80 (by decide) (ib_i (by omega) (by omega)) (ib_i (by omega) (by omega)) (fun c_80 => ?_) (fun c_80 => ?_)
      · refine li_const hx hb dX4_raise_87 ?_
        exact li_zret () hx hb hr hlocks hK hP hD hS (by decide) dX4_raise_88 hQ (by first | rw [raM_z (by omega) (by omega)] | rw [raM_k (by omega) (by omega) (hk62 (by omega))]) (congrArg iI (by first | (rw [raM_z (by omega) (by omega)]; first | exact (bz_t (by first | assumption | exact decide_eq_true (by omega))).symm | exact (bz_f (by first | assumption | (rw [decide_eq_true_eq]; omega))).symm) | (rw [raM_k (by omega) (by omega) (hk62 (by omega))]; first | exact (bz_t (by first | assumption | exact decide_eq_true (by omega))).symm | exact (bz_f (by first | assumption | (rw [decide_eq_true_eq]; omega))).symm)))
      · refine li_const hx hb dX4_raise_83 ?_
        refine lv_goto (tgt := 88) hx hb dX4_raise_84 (by decide) ?_
        exact li_zret () hx hb hr hlocks hK hP hD hS (by decide) dX4_raise_88 hQ (by first | rw [raM_z (by omega) (by omega)] | rw [raM_k (by omega) (by omega) (hk62 (by omega))]) (congrArg iI (by first | (rw [raM_z (by omega) (by omega)]; first | exact (bz_t (by first | assumption | exact decide_eq_true (by omega))).symm | exact (bz_f (by first | assumption | (rw [decide_eq_true_eq]; omega))).symm) | (rw [raM_k (by omega) (by omega) (hk62 (by omega))]; first | exact (bz_t (by first | assumption | exact decide_eq_true (by omega))).symm | exact (bz_f (by first | assumption | (rw [decide_eq_true_eq]; omega))).symm)))
    · refine lv_aload_n hx hb dX4_raise_48 rfl (lv_at hl 2 rfl) ?_
      refine lv_iload hx hb dX4_raise_49 (lv_at hl 0 rfl) ?_
      refine lv_aload_n hx hb dX4_raise_51 rfl (lv_at hl 2 rfl) ?_
      refine lv_iload hx hb dX4_raise_52 (lv_at hl 0 rfl) ?_
      refine cl_i0 (isC := [0, 1]) (isR := []) (isN := [0, 1]) (wr := []) (wn := cWa cI n L a gd w W0 W1) (As := [.int (iI (c + 1))]) (rest := [.int (iI (c + 1)), .ref W0]) (r := (c + 1) * L) (ci := 4) (q0 := 0) ⟨hx, hb, hml, hown, hts⟩ (c_X4_floorOf n L a gd w W0 W1 (c + 1) ) (cwV 1 hts gX4_raise_X4_floorOf rfl rfl rfl (by decide +kernel) ⟨by dsimp only [rK]; omega, by dsimp only [rK]; omega⟩) hK hNW hP hD hS hA rfl rfl rfl rfl (by decide) rfl rfl rfl rfl rfl rfl hl.1 rfl (Nat.le_of_ble_eq_true rfl) dX4_raise_54 ⟨Nat.zero_le _, Nat.zero_le _⟩ (fun H locs hP hD hS => ?_)
      refine lv_iload_n hx hb dX4_raise_57 rfl (lv_at hl 1 rfl) ?_
      refine li_add hx hb dX4_raise_58 ?_
      refine cs_i0 (isC := [0, 1]) (isR := []) (isN := [0, 1]) (wr := []) (wn := cWa cI n L a gd ((raM n L a (d - 1) (c + 1) (t - w.2.2.2 c) w).2) W0 W1) (As := [.ref W0, .int (iI (c + 1)), .int (iI (((c + 1) * L) + (t - w.2.2.2 c)))]) (rest := []) (r := bz ((raM n L a (d - 1) (c + 1) (t - w.2.2.2 c) w).1 = true)) ⟨hx, hb, hml, hown, hts⟩ (ihd (d - 1) (by omega) n L a gd w W0 W1 (t - w.2.2.2 c) (c + 1) (((c + 1) * L) + (t - w.2.2.2 c)) (by first | assumption | omega) (by first | assumption | omega) (by first | assumption | omega) (by first | assumption | omega) (by first | assumption | omega) (by first | assumption | omega) (by first | assumption | omega) (by omega)) (va_cwS 3 hts gX4_raise_X4_raise rfl rfl rfl (by decide +kernel) ⟨by dsimp only [rK]; omega, by dsimp only [rK]; omega⟩) hK hNW hP hD hS hA rfl rfl rfl rfl (by decide) rfl rfl rfl hl.1 rfl (Nat.le_of_ble_eq_true rfl) dX4_raise_59 ⟨Nat.zero_le _, Nat.zero_le _⟩ (fun H locs hP hD hS => ?_)
      refine li_ifb_ne (tgt := 67) hx hb dX4_raise_62 (by decide) (fun c_62 => ?_) (fun c_62 => ?_)
      · have hw3 : WI n L a ((raM n L a (d - 1) (c + 1) (t - w.2.2.2 c) w).2) := by first | exact hw | exact raM_WI hn hL ha _ _ _ _ (by omega) (by omega) hw
        have hw4 := rnW_WI hn hL ha (show 0 ≤ c + 1 ∧ c + 1 ≤ n by omega) (t - w.2.2.2 c).toNat hw3
        have hk62 : c + 1 < n → (raM n L a (d - 1) (c + 1) (t - w.2.2.2 c) w).1 = true := by
          intro h9
          first | exact c_62 | (exfalso; omega)
        refine lv_aload_n hx hb dX4_raise_67 rfl (lv_at hl 2 rfl) ?_
        refine lv_iload hx hb dX4_raise_68 (lv_at hl 0 rfl) ?_
        refine lv_iload_n hx hb dX4_raise_70 rfl (lv_at hl 1 rfl) ?_
        refine cl_v0 (isC := [0, 1]) (isR := []) (isN := [0, 1]) (wr := []) (wn := cWa cI n L a gd (rnW n L a (c + 1) (t - w.2.2.2 c).toNat ((raM n L a (d - 1) (c + 1) (t - w.2.2.2 c) w).2)) W0 W1) (As := [.int (iI (c + 1)), .int (iI (t - w.2.2.2 c))]) (rest := []) (ci := 4) (q0 := 0) ⟨hx, hb, hml, hown, hts⟩ (c_X4_runSluice n L a gd ((raM n L a (d - 1) (c + 1) (t - w.2.2.2 c) w).2) W0 W1 (c + 1) (t - w.2.2.2 c) (by first | assumption | omega) (by first | assumption | omega) (by first | assumption | omega) (by exact hw3) (by first | assumption | omega) (by first | assumption | omega)) (cwV 2 hts gX4_raise_X4_runSluice rfl rfl rfl (by decide +kernel) ⟨by dsimp only [rK]; omega, by dsimp only [rK]; omega⟩) hK hNW hP hD hS hA rfl rfl rfl rfl (by decide) rfl rfl rfl rfl rfl rfl hl.1 rfl (Nat.le_of_ble_eq_true rfl) dX4_raise_71 ⟨Nat.zero_le _, Nat.zero_le _⟩ (fun H locs hP hD hS => ?_)
        refine lv_aload_n hx hb dX4_raise_74 rfl (lv_at hl 2 rfl) ?_
        refine lv_iload_n hx hb dX4_raise_75 rfl (lv_at hl 3 rfl) ?_
        refine cl_i0 (isC := [0, 1]) (isR := []) (isN := [0, 1]) (wr := []) (wn := cWa cI n L a gd (rnW n L a (c + 1) (t - w.2.2.2 c).toNat ((raM n L a (d - 1) (c + 1) (t - w.2.2.2 c) w).2)) W0 W1) (As := [.int (iI c)]) (rest := []) (r := lvA n L a (rnW n L a (c + 1) (t - w.2.2.2 c).toNat ((raM n L a (d - 1) (c + 1) (t - w.2.2.2 c) w).2)) c) (ci := 4) (q0 := 0) ⟨hx, hb, hml, hown, hts⟩ (c_X4_levelAt n L a gd (rnW n L a (c + 1) (t - w.2.2.2 c).toNat ((raM n L a (d - 1) (c + 1) (t - w.2.2.2 c) w).2)) W0 W1 c (by first | assumption | omega) (by first | assumption | omega) (by first | assumption | omega) (by exact hw4) (by first | assumption | omega)) (cwV 1 hts gX4_raise_X4_levelAt rfl rfl rfl (by decide +kernel) ⟨by dsimp only [rK]; omega, by dsimp only [rK]; omega⟩) hK hNW hP hD hS hA rfl rfl rfl rfl (by decide) rfl rfl rfl rfl rfl rfl hl.1 rfl (Nat.le_of_ble_eq_true rfl) dX4_raise_76 ⟨Nat.zero_le _, Nat.zero_le _⟩ (fun H locs hP hD hS => ?_)
        have e3 := lvA_c (L := L) (a := a) (w := (rnW n L a (c + 1) (t - w.2.2.2 c).toNat ((raM n L a (d - 1) (c + 1) (t - w.2.2.2 c) w).2))) hc.1 hc.2
        have u3 := hw4.2 c hc.1 hc.2
        refine lv_iload_n hx hb dX4_raise_79 rfl (lv_at hl 4 rfl) ?_
        refine li_icmp_lt (tgt := 87) hx hb dX4_raise_80 (by decide) (ib_i (by omega) (by omega)) (ib_i (by omega) (by omega)) (fun c_80 => ?_) (fun c_80 => ?_)
        · refine li_const hx hb dX4_raise_87 ?_
          exact li_zret () hx hb hr hlocks hK hP hD hS (by decide) dX4_raise_88 hQ (by first | rw [raM_z (by omega) (by omega)] | rw [raM_k (by omega) (by omega) (hk62 (by omega))]) (congrArg iI (by first | (rw [raM_z (by omega) (by omega)]; first | exact (bz_t (by first | assumption | exact decide_eq_true (by omega))).symm | exact (bz_f (by first | assumption | (rw [decide_eq_true_eq]; omega))).symm) | (rw [raM_k (by omega) (by omega) (hk62 (by omega))]; first | exact (bz_t (by first | assumption | exact decide_eq_true (by omega))).symm | exact (bz_f (by first | assumption | (rw [decide_eq_true_eq]; omega))).symm)))
        · refine li_const hx hb dX4_raise_83 ?_
          refine lv_goto (tgt := 88) hx hb dX4_raise_84 (by decide) ?_
          exact li_zret () hx hb hr hlocks hK hP hD hS (by decide) dX4_raise_88 hQ (by first | rw [raM_z (by omega) (by omega)] | rw [raM_k (by omega) (by omega) (hk62 (by omega))]) (congrArg iI (by first | (rw [raM_z (by omega) (by omega)]; first | exact (bz_t (by first | assumption | exact decide_eq_true (by omega))).symm | exact (bz_f (by first | assumption | (rw [decide_eq_true_eq]; omega))).symm) | (rw [raM_k (by omega) (by omega) (hk62 (by omega))]; first | exact (bz_t (by first | assumption | exact decide_eq_true (by omega))).symm | exact (bz_f (by first | assumption | (rw [decide_eq_true_eq]; omega))).symm)))
      · refine li_const hx hb dX4_raise_65 ?_
        exact li_zret () hx hb hr hlocks hK hP hD hS (by decide) dX4_raise_66 hQ (by rw [raM_r (by omega) (by omega) c_62]) (congrArg iI (by rw [raM_r (by omega) (by omega) c_62]; rfl))
  · refine li_const hx hb dX4_raise_31 ?_
    exact li_zret () hx hb hr hlocks hK hP hD hS (by decide) dX4_raise_32 hQ (by rw [raM_t d (by omega)]) (congrArg iI (by rw [raM_t d (by omega)]; rfl))

set_option maxRecDepth 100000 in
set_option maxHeartbeats 4000000 in
theorem c_X4_levelLowerGate {l : Launch} {D : va_G} {cI cZ cJ : ClassId} (n : Int) (L : Int) (a : Int) (gd : Int) (w : Wt) (W0 W1 : Nat) (g : Int) (hn : 1 ≤ n ∧ n ≤ 6) (hL : 5 ≤ L ∧ L ≤ 40) (ha : 1 ≤ a ∧ a ≤ 50) (hw : WI n L a w) (hg : 0 ≤ g ∧ g < n) : Di l yX4_levelLowerGate wsX4_levelLowerGate 20 [.ref W0, .int (iI g)] D (ty3 cI cZ cJ) (cWa cI n L a gd w W0 W1) (bz ((lvG n L a g w).1 = true)) (cWa cI n L a gd ((lvG n L a g w).2) W0 W1) := by
  refine ct_i (plainFor_of_name (by decide)) rfl (Nat.le_of_ble_eq_true rfl) ?_
  intro p e s mI args below meth c_0 ls A hx hb hr hml hts hown hlocks hin hA hP hK hD hNW hS hl Q hQ
  have hown : s.vm.findClass RX4 = some mI.cls := hown
  have hl : lv_has ls 2 [(0, .ref W0), (1, .int (iI g))] := hl
  refine lv_aload_n hx hb dX4_levelLowerGate_0 rfl (lv_at hl 0 rfl) ?_
  refine lv_iload_n hx hb dX4_levelLowerGate_1 rfl (lv_at hl 1 rfl) ?_
  refine lv_aload_n hx hb dX4_levelLowerGate_2 rfl (lv_at hl 0 rfl) ?_
  refine lv_iload_n hx hb dX4_levelLowerGate_3 rfl (lv_at hl 1 rfl) ?_
  refine cl_i0 (isC := [0, 1]) (isR := []) (isN := [0, 1]) (wr := []) (wn := cWa cI n L a gd w W0 W1) (As := [.int (iI g)]) (rest := [.int (iI g), .ref W0]) (r := g * L) (ci := 4) (q0 := 0) ⟨hx, hb, hml, hown, hts⟩ (c_X4_floorOf n L a gd w W0 W1 g ) (cwV 1 hts gX4_levelLowerGate_X4_floorOf rfl rfl rfl (by decide +kernel) ⟨Nat.le_of_ble_eq_true rfl, Nat.le_of_ble_eq_true rfl⟩) hK hNW hP hD hS hA rfl rfl rfl rfl (by decide) rfl rfl rfl rfl rfl rfl hl.1 rfl (Nat.le_of_ble_eq_true rfl) dX4_levelLowerGate_4 ⟨Nat.zero_le _, Nat.zero_le _⟩ (fun H locs hP hD hS => ?_)
  refine cs_v0 (isC := [0, 1]) (isR := []) (isN := [0, 1]) (wr := []) (wn := cWa cI n L a gd (loM n L a g.toNat 0 w) W0 W1) (As := [.ref W0, .int (iI g), .int (iI (g * L))]) (rest := []) ⟨hx, hb, hml, hown, hts⟩ (cr_X4_lower g.toNat n L a gd w W0 W1 0 g (g * L) (by first | assumption | omega) (by first | assumption | omega) (by first | assumption | omega) (by first | assumption | omega) (by first | assumption | omega) (by first | assumption | omega) (by first | assumption | omega) rfl) (va_cwS 3 hts gX4_levelLowerGate_X4_lower rfl rfl rfl (by decide +kernel) ⟨by dsimp only [rK]; omega, by dsimp only [rK]; omega⟩) hK hNW hP hD hS hA rfl rfl rfl rfl (by decide) rfl rfl rfl hl.1 rfl (Nat.le_of_ble_eq_true rfl) dX4_levelLowerGate_7 ⟨Nat.zero_le _, Nat.zero_le _⟩ (fun H locs hP hD hS => ?_)
  refine lv_iload_n hx hb dX4_levelLowerGate_10 rfl (lv_at hl 1 rfl) ?_
  refine li_if_eq (tgt := 31) hx hb dX4_levelLowerGate_11 (by decide) (ib_i (by omega) (by omega)) (fun c_11 => ?_) (fun c_11 => ?_)
  · refine li_const hx hb dX4_levelLowerGate_31 ?_
    refine lv_goto (tgt := 36) hx hb dX4_levelLowerGate_32 (by decide) ?_
    exact li_zret () hx hb hr hlocks hK hP hD hS (by decide) dX4_levelLowerGate_36 hQ (by unfold lvG; first | rw [if_pos (by assumption)] | rw [if_neg (by assumption)]) (congrArg iI (by unfold lvG; first | (rw [if_pos (by assumption)]; rfl) | (rw [if_neg (by assumption)]; first | exact (bz_t (by first | assumption | exact decide_eq_true (by omega))).symm | exact (bz_f (by first | assumption | (rw [decide_eq_true_eq]; omega))).symm)))
  · refine lv_aload_n hx hb dX4_levelLowerGate_14 rfl (lv_at hl 0 rfl) ?_
    refine lv_iload_n hx hb dX4_levelLowerGate_15 rfl (lv_at hl 1 rfl) ?_
    refine li_const hx hb dX4_levelLowerGate_16 ?_
    refine li_sub hx hb dX4_levelLowerGate_17 ?_
    refine lv_aload_n hx hb dX4_levelLowerGate_18 rfl (lv_at hl 0 rfl) ?_
    refine lv_iload_n hx hb dX4_levelLowerGate_19 rfl (lv_at hl 1 rfl) ?_
    refine li_const hx hb dX4_levelLowerGate_20 ?_
    refine li_sub hx hb dX4_levelLowerGate_21 ?_
    refine cl_i0 (isC := [0, 1]) (isR := []) (isN := [0, 1]) (wr := []) (wn := cWa cI n L a gd (loM n L a g.toNat 0 w) W0 W1) (As := [.int (iI (g - 1))]) (rest := [.int (iI (g - 1)), .ref W0]) (r := (g - 1) * L + L) (ci := 4) (q0 := 0) ⟨hx, hb, hml, hown, hts⟩ (c_X4_topOf n L a gd (loM n L a g.toNat 0 w) W0 W1 (g - 1) ) (cwV 1 hts gX4_levelLowerGate_X4_topOf rfl rfl rfl (by decide +kernel) ⟨Nat.le_of_ble_eq_true rfl, Nat.le_of_ble_eq_true rfl⟩) hK hNW hP hD hS hA rfl rfl rfl rfl (by decide) rfl rfl rfl rfl rfl rfl hl.1 rfl (Nat.le_of_ble_eq_true rfl) dX4_levelLowerGate_22 ⟨Nat.zero_le _, Nat.zero_le _⟩ (fun H locs hP hD hS => ?_)
    refine cs_i0 (isC := [0, 1]) (isR := []) (isN := [0, 1]) (wr := []) (wn := cWa cI n L a gd ((raM n L a ((n - g).toNat) (g - 1) L (loM n L a g.toNat 0 w)).2) W0 W1) (As := [.ref W0, .int (iI (g - 1)), .int (iI ((g - 1) * L + L))]) (rest := []) (r := bz ((raM n L a ((n - g).toNat) (g - 1) L (loM n L a g.toNat 0 w)).1 = true)) ⟨hx, hb, hml, hown, hts⟩ (cr_X4_raise ((n - g).toNat) n L a gd (loM n L a g.toNat 0 w) W0 W1 L (g - 1) ((g - 1) * L + L) (by first | assumption | omega) (by first | assumption | omega) (by first | assumption | omega) (by exact loM_WI hn hL ha _ _ _ (by omega) hw) (by first | assumption | omega) (by first | assumption | omega) (by first | assumption | omega) (by omega)) (va_cwS 3 hts gX4_levelLowerGate_X4_raise rfl rfl rfl (by decide +kernel) ⟨by dsimp only [rK]; omega, by dsimp only [rK]; omega⟩) hK hNW hP hD hS hA rfl rfl rfl rfl (by decide) rfl rfl rfl hl.1 rfl (Nat.le_of_ble_eq_true rfl) dX4_levelLowerGate_25 ⟨Nat.zero_le _, Nat.zero_le _⟩ (fun H locs hP hD hS => ?_)
    refine li_ifb_eq (tgt := 35) hx hb dX4_levelLowerGate_28 (by decide) (fun c_28 => ?_) (fun c_28 => ?_)
    · refine li_const hx hb dX4_levelLowerGate_35 ?_
      exact li_zret () hx hb hr hlocks hK hP hD hS (by decide) dX4_levelLowerGate_36 hQ (by unfold lvG; first | rw [if_pos (by assumption)] | rw [if_neg (by assumption)]) (congrArg iI (by unfold lvG; first | (rw [if_pos (by assumption)]; rfl) | (rw [if_neg (by assumption)]; first | exact (bz_t (by first | assumption | exact decide_eq_true (by omega))).symm | exact (bz_f (by first | assumption | (rw [decide_eq_true_eq]; omega))).symm)))
    · refine li_const hx hb dX4_levelLowerGate_31 ?_
      refine lv_goto (tgt := 36) hx hb dX4_levelLowerGate_32 (by decide) ?_
      exact li_zret () hx hb hr hlocks hK hP hD hS (by decide) dX4_levelLowerGate_36 hQ (by unfold lvG; first | rw [if_pos (by assumption)] | rw [if_neg (by assumption)]) (congrArg iI (by unfold lvG; first | (rw [if_pos (by assumption)]; rfl) | (rw [if_neg (by assumption)]; first | exact (bz_t (by first | assumption | exact decide_eq_true (by omega))).symm | exact (bz_f (by first | assumption | (rw [decide_eq_true_eq]; omega))).symm)))

set_option maxRecDepth 100000 in
set_option maxHeartbeats 4000000 in
theorem c_X4_levelHighestGate {l : Launch} {D : va_G} {cI cZ cJ : ClassId} (n : Int) (L : Int) (a : Int) (gd : Int) (w : Wt) (W0 W1 : Nat) (hn : 1 ≤ n ∧ n ≤ 6) (hL : 5 ≤ L ∧ L ≤ 40) (ha : 1 ≤ a ∧ a ≤ 50) (hw : WI n L a w) : Di l yX4_levelHighestGate wsX4_levelHighestGate 20 [.ref W0] D (ty3 cI cZ cJ) (cWa cI n L a gd w W0 W1) (bz ((lhM n L a FU w).1 = true)) (cWa cI n L a gd ((lhM n L a FU w).2) W0 W1) := by
  refine ct_i (plainFor_of_name (by decide)) rfl (Nat.le_of_ble_eq_true rfl) ?_
  intro p e s mI args below meth c_0 ls A hx hb hr hml hts hown hlocks hin hA hP hK hD hNW hS hl Q hQ
  have hown : s.vm.findClass RX4 = some mI.cls := hown
  have hl : lv_has ls 3 [(0, .ref W0)] := hl
  have hin_X4 : ∀ w ∈ wsX40, w ∈ wsX4_levelHighestGate := by decide +kernel
  have hc_88 := hts (.constant RX4 88 (100000)) (by decide +kernel)
  have hf_22 := hts (.fieldLink RX4 22 "LockStaircase$Water" "levels" "[I") (by decide +kernel)
  have hf_50 := hts (.fieldLink RX4 50 "LockStaircase$Water" "minutes" "I") (by decide +kernel)
  refine lv_aload_n hx hb dX4_levelHighestGate_0 rfl (lv_at hl 0 rfl) ?_
  refine li_get (ci := 4) (v := .ref W1) (C := RX4) (T := TX4) (N := 8) (q0 := 0) (k := 2) hx hb hts hin_X4 hown hK hP rfl rfl (by decide) hf_22 rfl rfl dX4_levelHighestGate_1 ?_
  refine li_alen (q0 := 1) (t0 := 0) (z := n) hx hb hK hP rfl rfl (by omega) dX4_levelHighestGate_4 ?_
  refine lv_istore_n (lv' := [(1, .int (iI n)), (0, .ref W0)]) hx hb dX4_levelHighestGate_5 rfl hl (by decide) rfl (fun ls hl => ?_)
  refine li_const hx hb dX4_levelHighestGate_6 ?_
  refine lv_istore_n (lv' := [(2, .int (iI 0)), (1, .int (iI n)), (0, .ref W0)]) hx hb dX4_levelHighestGate_7 rfl hl (by decide) rfl (fun ls hl => ?_)
  have loop_8 : ∀ (N : Nat) (r : Int) (w2 : Wt), (0 ≤ r ∧ r ≤ 100000) → (WI n L a w2) → (lhM n L a (100000 - r).toNat w2 = lhM n L a FU w) → 100000 - r < (N : Int) → ∀ (H : Heap) (locs : List Loc), va_P D vwCl (cWa cI n L a gd w2 W0 W1) H → va_D A (cWa cI n L a gd w2 W0 W1) → va_S A s.heap H locs → ∀ (ls : Array Slot), lv_has ls 3 [(2, .int (iI r)), (1, .int (iI n)), (0, .ref W0)] → W p l e (rK 20 0 0) s mI args below meth c_0 H locs 0 0 Q (F0 mI 8 ls []) := by
    intro N
    induction N with
    | zero =>
      intro r w2 hrr hw2 hq hN
      exact absurd hN (by omega)
    | succ N ih =>
      intro r w2 hrr hw2 hq hN H locs hP hD hS ls hl
      have b1 := lvA_b hn hL ha hw2 n (by omega)
      have b2 := lvA_b hn hL ha hw2 (n - 1) (by omega)
      have eh : hdA n L a w2 n = lvA n L a w2 n - lvA n L a w2 (n - 1) := rfl
      have ec := lvA_c (L := L) (a := a) (w := w2) (show 0 ≤ n - 1 by omega) (show n - 1 < n by omega)
      have uc := hw2.2 (n - 1) (by omega) (by omega)
      have m1 := mu_b (g := n - 1) (by omega) (by omega) hL
      refine lv_iload_n hx hb dX4_levelHighestGate_8 rfl (lv_at hl 0 rfl) ?_
      refine lv_ldc (v := 100000) hx hb hown hc_88 dX4_levelHighestGate_9 ?_
      refine li_topI (b := 100000) (by decide) ?_
      refine li_icmp_ge (tgt := 86) hx hb dX4_levelHighestGate_11 (by decide) (ib_i (by omega) (by omega)) (by decide) (fun c_11 => ?_) (fun c_11 => ?_)
      · refine lv_aload_n hx hb dX4_levelHighestGate_86 rfl (lv_at hl 2 rfl) ?_
        refine lv_iload_n hx hb dX4_levelHighestGate_87 rfl (lv_at hl 1 rfl) ?_
        refine cl_i0 (isC := [0, 1]) (isR := []) (isN := [0, 1]) (wr := []) (wn := cWa cI n L a gd w2 W0 W1) (As := [.int (iI n)]) (rest := []) (r := hdA n L a w2 n) (ci := 4) (q0 := 0) ⟨hx, hb, hml, hown, hts⟩ (c_X4_headOver n L a gd w2 W0 W1 n (by first | assumption | omega) (by first | assumption | omega) (by first | assumption | omega) (by exact hw2) (by first | assumption | omega)) (cwV 1 hts gX4_levelHighestGate_X4_headOver rfl rfl rfl (by decide +kernel) ⟨Nat.le_of_ble_eq_true rfl, Nat.le_of_ble_eq_true rfl⟩) hK hNW hP hD hS hA rfl rfl rfl rfl (by decide) rfl rfl rfl rfl rfl rfl hl.1 rfl (Nat.le_of_ble_eq_true rfl) dX4_levelHighestGate_88 ⟨Nat.zero_le _, Nat.zero_le _⟩ (fun H locs hP hD hS => ?_)
        refine li_if_ne (tgt := 98) hx hb dX4_levelHighestGate_91 (by decide) (ib_i (by omega) (by omega)) (fun c_91 => ?_) (fun c_91 => ?_)
        · refine li_const hx hb dX4_levelHighestGate_98 ?_
          exact li_zret () hx hb hr hlocks hK hP hD hS (by decide) dX4_levelHighestGate_99 hQ (by first | rw [← hq, lhM_z _ (by omega)] | rw [← hq, show (100000 - r).toNat = 0 by omega, lhM_0] | (exfalso; omega)) (congrArg iI (by first | (rw [← hq, lhM_z _ (by omega)]; rfl) | (rw [← hq, show (100000 - r).toNat = 0 by omega, lhM_0]; exact (bz_f (by rw [decide_eq_true_eq]; omega)).symm) | (exfalso; omega)))
        · refine li_const hx hb dX4_levelHighestGate_94 ?_
          refine lv_goto (tgt := 99) hx hb dX4_levelHighestGate_95 (by decide) ?_
          exact li_zret () hx hb hr hlocks hK hP hD hS (by decide) dX4_levelHighestGate_99 hQ (by first | rw [← hq, lhM_z _ (by omega)] | rw [← hq, show (100000 - r).toNat = 0 by omega, lhM_0] | (exfalso; omega)) (congrArg iI (by first | (rw [← hq, lhM_z _ (by omega)]; rfl) | (rw [← hq, show (100000 - r).toNat = 0 by omega, lhM_0]; exact (bz_f (by rw [decide_eq_true_eq]; omega)).symm) | (exfalso; omega)))
      · refine lv_aload_n hx hb dX4_levelHighestGate_14 rfl (lv_at hl 2 rfl) ?_
        refine lv_iload_n hx hb dX4_levelHighestGate_15 rfl (lv_at hl 1 rfl) ?_
        refine cl_i0 (isC := [0, 1]) (isR := []) (isN := [0, 1]) (wr := []) (wn := cWa cI n L a gd w2 W0 W1) (As := [.int (iI n)]) (rest := []) (r := hdA n L a w2 n) (ci := 4) (q0 := 0) ⟨hx, hb, hml, hown, hts⟩ (c_X4_headOver n L a gd w2 W0 W1 n (by first | assumption | omega) (by first | assumption | omega) (by first | assumption | omega) (by exact hw2) (by first | assumption | omega)) (cwV 1 hts gX4_levelHighestGate_X4_headOver rfl rfl rfl (by decide +kernel) ⟨Nat.le_of_ble_eq_true rfl, Nat.le_of_ble_eq_true rfl⟩) hK hNW hP hD hS hA rfl rfl rfl rfl (by decide) rfl rfl rfl rfl rfl rfl hl.1 rfl (Nat.le_of_ble_eq_true rfl) dX4_levelHighestGate_16 ⟨Nat.zero_le _, Nat.zero_le _⟩ (fun H locs hP hD hS => ?_)
        refine li_if_eq (tgt := 86) hx hb dX4_levelHighestGate_19 (by decide) (ib_i (by omega) (by omega)) (fun c_19 => ?_) (fun c_19 => ?_)
        · refine lv_aload_n hx hb dX4_levelHighestGate_86 rfl (lv_at hl 2 rfl) ?_
          refine lv_iload_n hx hb dX4_levelHighestGate_87 rfl (lv_at hl 1 rfl) ?_
          refine cl_i0 (isC := [0, 1]) (isR := []) (isN := [0, 1]) (wr := []) (wn := cWa cI n L a gd w2 W0 W1) (As := [.int (iI n)]) (rest := []) (r := hdA n L a w2 n) (ci := 4) (q0 := 0) ⟨hx, hb, hml, hown, hts⟩ (c_X4_headOver n L a gd w2 W0 W1 n (by first | assumption | omega) (by first | assumption | omega) (by first | assumption | omega) (by exact hw2) (by first | assumption | omega)) (cwV 1 hts gX4_levelHighestGate_X4_headOver rfl rfl rfl (by decide +kernel) ⟨Nat.le_of_ble_eq_true rfl, Nat.le_of_ble_eq_true rfl⟩) hK hNW hP hD hS hA rfl rfl rfl rfl (by decide) rfl rfl rfl rfl rfl rfl hl.1 rfl (Nat.le_of_ble_eq_true rfl) dX4_levelHighestGate_88 ⟨Nat.zero_le _, Nat.zero_le _⟩ (fun H locs hP hD hS => ?_)
          refine li_if_ne (tgt := 98) hx hb dX4_levelHighestGate_91 (by decide) (ib_i (by omega) (by omega)) (fun c_91 => ?_) (fun c_91 => ?_)
          · refine li_const hx hb dX4_levelHighestGate_98 ?_
            exact li_zret () hx hb hr hlocks hK hP hD hS (by decide) dX4_levelHighestGate_99 hQ (by first | rw [← hq, lhM_z _ (by omega)] | rw [← hq, show (100000 - r).toNat = 0 by omega, lhM_0] | (exfalso; omega)) (congrArg iI (by first | (rw [← hq, lhM_z _ (by omega)]; rfl) | (rw [← hq, show (100000 - r).toNat = 0 by omega, lhM_0]; exact (bz_f (by rw [decide_eq_true_eq]; omega)).symm) | (exfalso; omega)))
          · refine li_const hx hb dX4_levelHighestGate_94 ?_
            refine lv_goto (tgt := 99) hx hb dX4_levelHighestGate_95 (by decide) ?_
            exact li_zret () hx hb hr hlocks hK hP hD hS (by decide) dX4_levelHighestGate_99 hQ (by first | rw [← hq, lhM_z _ (by omega)] | rw [← hq, show (100000 - r).toNat = 0 by omega, lhM_0] | (exfalso; omega)) (congrArg iI (by first | (rw [← hq, lhM_z _ (by omega)]; rfl) | (rw [← hq, show (100000 - r).toNat = 0 by omega, lhM_0]; exact (bz_f (by rw [decide_eq_true_eq]; omega)).symm) | (exfalso; omega)))
        · refine lv_aload_n hx hb dX4_levelHighestGate_22 rfl (lv_at hl 2 rfl) ?_
          refine lv_iload_n hx hb dX4_levelHighestGate_23 rfl (lv_at hl 1 rfl) ?_
          refine cl_i0 (isC := [0, 1]) (isR := []) (isN := [0, 1]) (wr := []) (wn := cWa cI n L a gd w2 W0 W1) (As := [.int (iI n)]) (rest := []) (r := lvA n L a w2 n) (ci := 4) (q0 := 0) ⟨hx, hb, hml, hown, hts⟩ (c_X4_levelAt n L a gd w2 W0 W1 n (by first | assumption | omega) (by first | assumption | omega) (by first | assumption | omega) (by exact hw2) (by first | assumption | omega)) (cwV 1 hts gX4_levelHighestGate_X4_levelAt rfl rfl rfl (by decide +kernel) ⟨Nat.le_of_ble_eq_true rfl, Nat.le_of_ble_eq_true rfl⟩) hK hNW hP hD hS hA rfl rfl rfl rfl (by decide) rfl rfl rfl rfl rfl rfl hl.1 rfl (Nat.le_of_ble_eq_true rfl) dX4_levelHighestGate_24 ⟨Nat.zero_le _, Nat.zero_le _⟩ (fun H locs hP hD hS => ?_)
          refine lv_aload_n hx hb dX4_levelHighestGate_27 rfl (lv_at hl 2 rfl) ?_
          refine lv_iload_n hx hb dX4_levelHighestGate_28 rfl (lv_at hl 1 rfl) ?_
          refine li_const hx hb dX4_levelHighestGate_29 ?_
          refine li_sub hx hb dX4_levelHighestGate_30 ?_
          refine cl_i0 (isC := [0, 1]) (isR := []) (isN := [0, 1]) (wr := []) (wn := cWa cI n L a gd w2 W0 W1) (As := [.int (iI (n - 1))]) (rest := [.int (iI (lvA n L a w2 n))]) (r := (n - 1) * L) (ci := 4) (q0 := 0) ⟨hx, hb, hml, hown, hts⟩ (c_X4_floorOf n L a gd w2 W0 W1 (n - 1) ) (cwV 1 hts gX4_levelHighestGate_X4_floorOf rfl rfl rfl (by decide +kernel) ⟨Nat.le_of_ble_eq_true rfl, Nat.le_of_ble_eq_true rfl⟩) hK hNW hP hD hS hA rfl rfl rfl rfl (by decide) rfl rfl rfl rfl rfl rfl hl.1 rfl (Nat.le_of_ble_eq_true rfl) dX4_levelHighestGate_31 ⟨Nat.zero_le _, Nat.zero_le _⟩ (fun H locs hP hD hS => ?_)
          refine li_icmp_ge (tgt := 39) hx hb dX4_levelHighestGate_34 (by decide) (ib_i (by omega) (by omega)) (ib_i (by omega) (by omega)) (fun c_34 => ?_) (fun c_34 => ?_)
          · refine lv_aload_n hx hb dX4_levelHighestGate_39 rfl (lv_at hl 2 rfl) ?_
            refine lv_iload_n hx hb dX4_levelHighestGate_40 rfl (lv_at hl 1 rfl) ?_
            refine cl_i0 (isC := [0, 1]) (isR := []) (isN := [0, 1]) (wr := []) (wn := cWa cI n L a gd w2 W0 W1) (As := [.int (iI n)]) (rest := []) (r := hdA n L a w2 n) (ci := 4) (q0 := 0) ⟨hx, hb, hml, hown, hts⟩ (c_X4_headOver n L a gd w2 W0 W1 n (by first | assumption | omega) (by first | assumption | omega) (by first | assumption | omega) (by exact hw2) (by first | assumption | omega)) (cwV 1 hts gX4_levelHighestGate_X4_headOver rfl rfl rfl (by decide +kernel) ⟨Nat.le_of_ble_eq_true rfl, Nat.le_of_ble_eq_true rfl⟩) hK hNW hP hD hS hA rfl rfl rfl rfl (by decide) rfl rfl rfl rfl rfl rfl hl.1 rfl (Nat.le_of_ble_eq_true rfl) dX4_levelHighestGate_41 ⟨Nat.zero_le _, Nat.zero_le _⟩ (fun H locs hP hD hS => ?_)
            refine li_if_le (tgt := 68) hx hb dX4_levelHighestGate_44 (by decide) (ib_i (by omega) (by omega)) (fun c_44 => ?_) (fun c_44 => ?_)
            · refine lv_aload_n hx hb dX4_levelHighestGate_68 rfl (lv_at hl 2 rfl) ?_
              refine lv_iload_n hx hb dX4_levelHighestGate_69 rfl (lv_at hl 1 rfl) ?_
              refine li_const hx hb dX4_levelHighestGate_70 ?_
              refine li_sub hx hb dX4_levelHighestGate_71 ?_
              refine lv_aload_n hx hb dX4_levelHighestGate_72 rfl (lv_at hl 2 rfl) ?_
              refine lv_iload_n hx hb dX4_levelHighestGate_73 rfl (lv_at hl 1 rfl) ?_
              refine cl_i0 (isC := [0, 1]) (isR := []) (isN := [0, 1]) (wr := []) (wn := cWa cI n L a gd w2 W0 W1) (As := [.int (iI n)]) (rest := [.int (iI (n - 1)), .ref W0]) (r := lvA n L a w2 n) (ci := 4) (q0 := 0) ⟨hx, hb, hml, hown, hts⟩ (c_X4_levelAt n L a gd w2 W0 W1 n (by first | assumption | omega) (by first | assumption | omega) (by first | assumption | omega) (by exact hw2) (by first | assumption | omega)) (cwV 1 hts gX4_levelHighestGate_X4_levelAt rfl rfl rfl (by decide +kernel) ⟨Nat.le_of_ble_eq_true rfl, Nat.le_of_ble_eq_true rfl⟩) hK hNW hP hD hS hA rfl rfl rfl rfl (by decide) rfl rfl rfl rfl rfl rfl hl.1 rfl (Nat.le_of_ble_eq_true rfl) dX4_levelHighestGate_74 ⟨Nat.zero_le _, Nat.zero_le _⟩ (fun H locs hP hD hS => ?_)
              refine cs_v0 (isC := [0, 1]) (isR := []) (isN := [0, 1]) (wr := []) (wn := cWa cI n L a gd (loM n L a (n - 1).toNat (lvA n L a w2 n - (n - 1) * L) w2) W0 W1) (As := [.ref W0, .int (iI (n - 1)), .int (iI (lvA n L a w2 n))]) (rest := []) ⟨hx, hb, hml, hown, hts⟩ (cr_X4_lower ((n - 1).toNat) n L a gd w2 W0 W1 (lvA n L a w2 n - (n - 1) * L) (n - 1) (lvA n L a w2 n) (by first | assumption | omega) (by first | assumption | omega) (by first | assumption | omega) (by exact hw2) (by first | assumption | omega) (by first | assumption | omega) (by first | assumption | omega) rfl) (va_cwS 3 hts gX4_levelHighestGate_X4_lower rfl rfl rfl (by decide +kernel) ⟨by dsimp only [rK]; omega, by dsimp only [rK]; omega⟩) hK hNW hP hD hS hA rfl rfl rfl rfl (by decide) rfl rfl rfl hl.1 rfl (Nat.le_of_ble_eq_true rfl) dX4_levelHighestGate_77 ⟨Nat.zero_le _, Nat.zero_le _⟩ (fun H locs hP hD hS => ?_)
              refine li_inc (j := 0) (lv' := [(2, .int (iI (r + 1))), (1, .int (iI n)), (0, .ref W0)]) hx hb dX4_levelHighestGate_80 hl rfl (by decide) rfl (fun ls hl => ?_)
              refine lv_goto (tgt := 8) hx hb dX4_levelHighestGate_83 (by decide) ?_
              have he9 : (100000 - r).toNat = (100000 - (r + 1)).toNat + 1 := by omega
              exact ih (r + 1) (loM n L a (n - 1).toNat (lvA n L a w2 n - (n - 1) * L) w2) (by omega) (by first | exact tickW_WI (flW_WI hn hL ha (by omega) 20 w2 hw2).1 | exact loM_WI hn hL ha _ _ _ (by omega) hw2) (by first | (rw [he9, lhM_u _ (by omega) (by omega) (by omega)] at hq; exact hq) | (rw [he9, lhM_d _ (by omega) (by omega) (by omega)] at hq; exact hq)) (by omega) _ _ hP hD hS _ (lv_sub hl [0, 1, 2] rfl)
            · refine lv_aload_n hx hb dX4_levelHighestGate_47 rfl (lv_at hl 2 rfl) ?_
              refine lv_iload_n hx hb dX4_levelHighestGate_48 rfl (lv_at hl 1 rfl) ?_
              refine li_bipush hx hb dX4_levelHighestGate_49 (by decide) ?_
              refine cl_i0 (isC := [0, 1]) (isR := []) (isN := [0, 1]) (wr := []) (wn := cWa cI n L a gd ((flW n L a n (20 : Int).toNat w2).2) W0 W1) (As := [.int (iI n), .int (iI 20)]) (rest := []) (r := (flW n L a n (20 : Int).toNat w2).1) (ci := 4) (q0 := 0) ⟨hx, hb, hml, hown, hts⟩ (c_X4_flow n L a gd w2 W0 W1 n 20 (by first | assumption | omega) (by first | assumption | omega) (by first | assumption | omega) (by exact hw2) (by first | assumption | omega) (by first | assumption | omega)) (cwV 2 hts gX4_levelHighestGate_X4_flow rfl rfl rfl (by decide +kernel) ⟨Nat.le_of_ble_eq_true rfl, Nat.le_of_ble_eq_true rfl⟩) hK hNW hP hD hS hA rfl rfl rfl rfl (by decide) rfl rfl rfl rfl rfl rfl hl.1 rfl (Nat.le_of_ble_eq_true rfl) dX4_levelHighestGate_51 ⟨Nat.zero_le _, Nat.zero_le _⟩ (fun H locs hP hD hS => ?_)
              refine lv_pop hx hb dX4_levelHighestGate_54 rfl ?_
              refine lv_aload_n hx hb dX4_levelHighestGate_55 rfl (lv_at hl 2 rfl) ?_
              refine lv_dup hx hb dX4_levelHighestGate_56 rfl ?_
              refine li_get (ci := 4) (v := .int (iI (((flW n L a n (20 : Int).toNat w2).2).2.2.1))) (C := RX4) (T := TX4) (N := 8) (q0 := 0) (k := 7) hx hb hts hin_X4 hown hK hP rfl rfl (by decide) hf_50 rfl rfl dX4_levelHighestGate_57 ?_
              refine li_const hx hb dX4_levelHighestGate_60 ?_
              refine li_add hx hb dX4_levelHighestGate_61 ?_
              refine li_put (ci := 4) (v := .int (iI ((((flW n L a n (20 : Int).toNat w2).2).2.2.1) + 1))) (ty := .int) (C := RX4) (T := TX4) (N := 8) (q0 := 0) (k := 7) (w2 := cWa cI n L a gd (((flW n L a n (20 : Int).toNat w2).2).1, ((flW n L a n (20 : Int).toNat w2).2).2.1, (((flW n L a n (20 : Int).toNat w2).2).2.2.1) + 1, ((flW n L a n (20 : Int).toNat w2).2).2.2.2) W0 W1) hx hb hts hin_X4 tyX4_ok nmX4 hown hK hP hD hS rfl rfl (by decide) hf_50 rfl rfl (by decide +kernel) rfl rfl (Nat.le_of_ble_eq_true rfl) dX4_levelHighestGate_62 rfl (fun H locs hP hD hS => ?_)
              refine lv_goto (tgt := 80) hx hb dX4_levelHighestGate_65 (by decide) ?_
              refine li_inc (j := 0) (lv' := [(2, .int (iI (r + 1))), (1, .int (iI n)), (0, .ref W0)]) hx hb dX4_levelHighestGate_80 hl rfl (by decide) rfl (fun ls hl => ?_)
              refine lv_goto (tgt := 8) hx hb dX4_levelHighestGate_83 (by decide) ?_
              have he9 : (100000 - r).toNat = (100000 - (r + 1)).toNat + 1 := by omega
              exact ih (r + 1) (((flW n L a n (20 : Int).toNat w2).2).1, ((flW n L a n (20 : Int).toNat w2).2).2.1, (((flW n L a n (20 : Int).toNat w2).2).2.2.1) + 1, ((flW n L a n (20 : Int).toNat w2).2).2.2.2) (by omega) (by first | exact tickW_WI (flW_WI hn hL ha (by omega) 20 w2 hw2).1 | exact loM_WI hn hL ha _ _ _ (by omega) hw2) (by first | (rw [he9, lhM_u _ (by omega) (by omega) (by omega)] at hq; exact hq) | (rw [he9, lhM_d _ (by omega) (by omega) (by omega)] at hq; exact hq)) (by omega) _ _ hP hD hS _ (lv_sub hl [0, 1, 2] rfl)
          · refine li_const hx hb dX4_levelHighestGate_37 ?_
            exact li_zret () hx hb hr hlocks hK hP hD hS (by decide) dX4_levelHighestGate_38 hQ (by rw [← hq, show (100000 - r).toNat = (100000 - (r + 1)).toNat + 1 by omega, lhM_b _ (by omega) (by omega)]) (congrArg iI (by rw [← hq, show (100000 - r).toNat = (100000 - (r + 1)).toNat + 1 by omega, lhM_b _ (by omega) (by omega)]; rfl))
  exact loop_8 (((100000 - 0) : Int) + 1).toNat 0 w (by omega) (by exact hw) (by rfl) (by omega) _ _ hP hD hS _ (lv_sub hl [0, 1, 2] rfl)

set_option maxRecDepth 100000 in
set_option maxHeartbeats 4000000 in
theorem c_X4_isBalanced {l : Launch} {D : va_G} {cI cZ cJ : ClassId} (n : Int) (L : Int) (a : Int) (gd : Int) (w : Wt) (W0 W1 : Nat) (hn : 1 ≤ n ∧ n ≤ 6) (hL : 5 ≤ L ∧ L ≤ 40) (ha : 1 ≤ a ∧ a ≤ 50) (hw : WI n L a w) (hbal : w.1 + w.2.1 + sumZ w.2.2.2 n.toNat = 20 * a + gd) : Di l yX4_isBalanced wsX4_isBalanced 3 [.ref W0] D (ty3 cI cZ cJ) (cWa cI n L a gd w W0 W1) (1) (cWa cI n L a gd w W0 W1) := by
  refine ct_i (plainFor_of_name (by decide)) rfl (Nat.le_of_ble_eq_true rfl) ?_
  intro p e s mI args below meth c_0 ls A hx hb hr hml hts hown hlocks hin hA hP hK hD hNW hS hl Q hQ
  have hown : s.vm.findClass RX4 = some mI.cls := hown
  have hl : lv_has ls 3 [(0, .ref W0)] := hl
  have hin_X4 : ∀ w ∈ wsX40, w ∈ wsX4_isBalanced := by decide +kernel
  have hf_22 := hts (.fieldLink RX4 22 "LockStaircase$Water" "levels" "[I") (by decide +kernel)
  have hf_29 := hts (.fieldLink RX4 29 "LockStaircase$Water" "pound" "I") (by decide +kernel)
  have hf_44 := hts (.fieldLink RX4 44 "LockStaircase$Water" "lost" "I") (by decide +kernel)
  have hf_47 := hts (.fieldLink RX4 47 "LockStaircase$Water" "gained" "I") (by decide +kernel)
  refine lv_aload_n hx hb dX4_isBalanced_0 rfl (lv_at hl 0 rfl) ?_
  refine li_get (ci := 4) (v := .int (iI w.1)) (C := RX4) (T := TX4) (N := 8) (q0 := 0) (k := 4) hx hb hts hin_X4 hown hK hP rfl rfl (by decide) hf_29 rfl rfl dX4_isBalanced_1 ?_
  refine lv_aload_n hx hb dX4_isBalanced_4 rfl (lv_at hl 0 rfl) ?_
  refine li_get (ci := 4) (v := .int (iI w.2.1)) (C := RX4) (T := TX4) (N := 8) (q0 := 0) (k := 5) hx hb hts hin_X4 hown hK hP rfl rfl (by decide) hf_44 rfl rfl dX4_isBalanced_5 ?_
  refine li_add hx hb dX4_isBalanced_8 ?_
  refine lv_istore_n (lv' := [(1, .int (iI (w.1 + w.2.1))), (0, .ref W0)]) hx hb dX4_isBalanced_9 rfl hl (by decide) rfl (fun ls hl => ?_)
  refine li_const hx hb dX4_isBalanced_10 ?_
  refine lv_istore_n (lv' := [(2, .int (iI 0)), (1, .int (iI (w.1 + w.2.1))), (0, .ref W0)]) hx hb dX4_isBalanced_11 rfl hl (by decide) rfl (fun ls hl => ?_)
  have loop_12 : ∀ (N : Nat) (j : Int) (hv : Int), (0 ≤ j ∧ j ≤ n) → (hv = w.1 + w.2.1 + sumZ w.2.2.2 j.toNat) → n - j < (N : Int) → ∀ (H : Heap) (locs : List Loc), va_P D vwCl (cWa cI n L a gd w W0 W1) H → va_D A (cWa cI n L a gd w W0 W1) → va_S A s.heap H locs → ∀ (ls : Array Slot), lv_has ls 3 [(2, .int (iI j)), (1, .int (iI hv)), (0, .ref W0)] → W p l e (rK 3 0 0) s mI args below meth c_0 H locs 0 0 Q (F0 mI 12 ls []) := by
    intro N
    induction N with
    | zero =>
      intro j hv hj hh hN
      exact absurd hN (by omega)
    | succ N ih =>
      intro j hv hj hh hN H locs hP hD hS ls hl
      have m1 := mu_b (g := j) (by omega) (by omega) hL
      refine lv_iload_n hx hb dX4_isBalanced_12 rfl (lv_at hl 0 rfl) ?_
      refine lv_aload_n hx hb dX4_isBalanced_13 rfl (lv_at hl 2 rfl) ?_
      refine li_get (ci := 4) (v := .ref W1) (C := RX4) (T := TX4) (N := 8) (q0 := 0) (k := 2) hx hb hts hin_X4 hown hK hP rfl rfl (by decide) hf_22 rfl rfl dX4_isBalanced_14 ?_
      refine li_alen (q0 := 1) (t0 := 0) (z := n) hx hb hK hP rfl rfl (by omega) dX4_isBalanced_17 ?_
      refine li_icmp_ge (tgt := 72) hx hb dX4_isBalanced_18 (by decide) (ib_i (by omega) (by omega)) (ib_i (by omega) (by omega)) (fun c_18 => ?_) (fun c_18 => ?_)
      · refine lv_iload_n hx hb dX4_isBalanced_72 rfl (lv_at hl 1 rfl) ?_
        refine lv_aload_n hx hb dX4_isBalanced_73 rfl (lv_at hl 2 rfl) ?_
        refine cl_i0 (isC := [0, 1]) (isR := []) (isN := [0, 1]) (wr := []) (wn := cWa cI n L a gd w W0 W1) (As := []) (rest := [.int (iI hv)]) (r := 20 * a) (ci := 4) (q0 := 0) ⟨hx, hb, hml, hown, hts⟩ (c_X4_fullPound n L a gd w W0 W1 ) (cwV 0 hts gX4_isBalanced_X4_fullPound rfl rfl rfl (by decide +kernel) ⟨Nat.le_of_ble_eq_true rfl, Nat.le_of_ble_eq_true rfl⟩) hK hNW hP hD hS hA rfl rfl rfl rfl (by decide) rfl rfl rfl rfl rfl rfl hl.1 rfl (Nat.le_of_ble_eq_true rfl) dX4_isBalanced_74 ⟨Nat.zero_le _, Nat.zero_le _⟩ (fun H locs hP hD hS => ?_)
        refine lv_aload_n hx hb dX4_isBalanced_77 rfl (lv_at hl 2 rfl) ?_
        refine li_get (ci := 4) (v := .int (iI gd)) (C := RX4) (T := TX4) (N := 8) (q0 := 0) (k := 6) hx hb hts hin_X4 hown hK hP rfl rfl (by decide) hf_47 rfl rfl dX4_isBalanced_78 ?_
        refine li_add hx hb dX4_isBalanced_81 ?_
        refine li_icmp_ne_s (tgt := 89) hx hb dX4_isBalanced_82 (by decide) (by rw [hh, show j = n by omega]; exact hbal) ?_
        refine li_const hx hb dX4_isBalanced_85 ?_
        refine lv_goto (tgt := 90) hx hb dX4_isBalanced_86 (by decide) ?_
        exact li_zret () hx hb hr hlocks hK hP hD hS (by decide) dX4_isBalanced_90 hQ rfl (congrArg iI (rfl))
      · have u1 := hw.2 j (by omega) (by omega)
        refine lv_aload_n hx hb dX4_isBalanced_21 rfl (lv_at hl 2 rfl) ?_
        refine li_get (ci := 4) (v := .ref W1) (C := RX4) (T := TX4) (N := 8) (q0 := 0) (k := 2) hx hb hts hin_X4 hown hK hP rfl rfl (by decide) hf_22 rfl rfl dX4_isBalanced_22 ?_
        refine lv_iload_n hx hb dX4_isBalanced_25 rfl (lv_at hl 0 rfl) ?_
        refine li_iald (q0 := 1) (t0 := 0) (g := lvf L w.2.2.2) hx hb hK hP rfl rfl (by omega) (by omega) (ib_i (by omega) (by omega)) dX4_isBalanced_26 ?_
        refine li_top (b := j * L + w.2.2.2 j) rfl ?_
        refine lv_aload_n hx hb dX4_isBalanced_27 rfl (lv_at hl 2 rfl) ?_
        refine lv_iload_n hx hb dX4_isBalanced_28 rfl (lv_at hl 0 rfl) ?_
        refine cl_i0 (isC := [0, 1]) (isR := []) (isN := [0, 1]) (wr := []) (wn := cWa cI n L a gd w W0 W1) (As := [.int (iI j)]) (rest := [.int (iI (j * L + w.2.2.2 j))]) (r := j * L) (ci := 4) (q0 := 0) ⟨hx, hb, hml, hown, hts⟩ (c_X4_floorOf n L a gd w W0 W1 j ) (cwV 1 hts gX4_isBalanced_X4_floorOf rfl rfl rfl (by decide +kernel) ⟨Nat.le_of_ble_eq_true rfl, Nat.le_of_ble_eq_true rfl⟩) hK hNW hP hD hS hA rfl rfl rfl rfl (by decide) rfl rfl rfl rfl rfl rfl hl.1 rfl (Nat.le_of_ble_eq_true rfl) dX4_isBalanced_29 ⟨Nat.zero_le _, Nat.zero_le _⟩ (fun H locs hP hD hS => ?_)
        refine li_icmp_lt_f (tgt := 49) hx hb dX4_isBalanced_32 (by decide) (ib_i (by omega) (by omega)) (ib_i (by omega) (by omega)) (by omega) ?_
        refine lv_aload_n hx hb dX4_isBalanced_35 rfl (lv_at hl 2 rfl) ?_
        refine li_get (ci := 4) (v := .ref W1) (C := RX4) (T := TX4) (N := 8) (q0 := 0) (k := 2) hx hb hts hin_X4 hown hK hP rfl rfl (by decide) hf_22 rfl rfl dX4_isBalanced_36 ?_
        refine lv_iload_n hx hb dX4_isBalanced_39 rfl (lv_at hl 0 rfl) ?_
        refine li_iald (q0 := 1) (t0 := 0) (g := lvf L w.2.2.2) hx hb hK hP rfl rfl (by omega) (by omega) (ib_i (by omega) (by omega)) dX4_isBalanced_40 ?_
        refine li_top (b := j * L + w.2.2.2 j) rfl ?_
        refine lv_aload_n hx hb dX4_isBalanced_41 rfl (lv_at hl 2 rfl) ?_
        refine lv_iload_n hx hb dX4_isBalanced_42 rfl (lv_at hl 0 rfl) ?_
        refine cl_i0 (isC := [0, 1]) (isR := []) (isN := [0, 1]) (wr := []) (wn := cWa cI n L a gd w W0 W1) (As := [.int (iI j)]) (rest := [.int (iI (j * L + w.2.2.2 j))]) (r := j * L + L) (ci := 4) (q0 := 0) ⟨hx, hb, hml, hown, hts⟩ (c_X4_topOf n L a gd w W0 W1 j ) (cwV 1 hts gX4_isBalanced_X4_topOf rfl rfl rfl (by decide +kernel) ⟨Nat.le_of_ble_eq_true rfl, Nat.le_of_ble_eq_true rfl⟩) hK hNW hP hD hS hA rfl rfl rfl rfl (by decide) rfl rfl rfl rfl rfl rfl hl.1 rfl (Nat.le_of_ble_eq_true rfl) dX4_isBalanced_43 ⟨Nat.zero_le _, Nat.zero_le _⟩ (fun H locs hP hD hS => ?_)
        refine li_icmp_le_t (tgt := 51) hx hb dX4_isBalanced_46 (by decide) (ib_i (by omega) (by omega)) (ib_i (by omega) (by omega)) (by omega) ?_
        refine lv_iload_n hx hb dX4_isBalanced_51 rfl (lv_at hl 1 rfl) ?_
        refine lv_aload_n hx hb dX4_isBalanced_52 rfl (lv_at hl 2 rfl) ?_
        refine li_get (ci := 4) (v := .ref W1) (C := RX4) (T := TX4) (N := 8) (q0 := 0) (k := 2) hx hb hts hin_X4 hown hK hP rfl rfl (by decide) hf_22 rfl rfl dX4_isBalanced_53 ?_
        refine lv_iload_n hx hb dX4_isBalanced_56 rfl (lv_at hl 0 rfl) ?_
        refine li_iald (q0 := 1) (t0 := 0) (g := lvf L w.2.2.2) hx hb hK hP rfl rfl (by omega) (by omega) (ib_i (by omega) (by omega)) dX4_isBalanced_57 ?_
        refine li_top (b := j * L + w.2.2.2 j) rfl ?_
        refine lv_aload_n hx hb dX4_isBalanced_58 rfl (lv_at hl 2 rfl) ?_
        refine lv_iload_n hx hb dX4_isBalanced_59 rfl (lv_at hl 0 rfl) ?_
        refine cl_i0 (isC := [0, 1]) (isR := []) (isN := [0, 1]) (wr := []) (wn := cWa cI n L a gd w W0 W1) (As := [.int (iI j)]) (rest := [.int (iI (j * L + w.2.2.2 j)), .int (iI hv)]) (r := j * L) (ci := 4) (q0 := 0) ⟨hx, hb, hml, hown, hts⟩ (c_X4_floorOf n L a gd w W0 W1 j ) (cwV 1 hts gX4_isBalanced_X4_floorOf rfl rfl rfl (by decide +kernel) ⟨Nat.le_of_ble_eq_true rfl, Nat.le_of_ble_eq_true rfl⟩) hK hNW hP hD hS hA rfl rfl rfl rfl (by decide) rfl rfl rfl rfl rfl rfl hl.1 rfl (Nat.le_of_ble_eq_true rfl) dX4_isBalanced_60 ⟨Nat.zero_le _, Nat.zero_le _⟩ (fun H locs hP hD hS => ?_)
        refine li_sub hx hb dX4_isBalanced_63 ?_
        refine li_add hx hb dX4_isBalanced_64 ?_
        refine lv_istore_n (lv' := [(1, .int (iI (hv + ((j * L + w.2.2.2 j) - (j * L))))), (2, .int (iI j)), (0, .ref W0)]) hx hb dX4_isBalanced_65 rfl hl (by decide) rfl (fun ls hl => ?_)
        refine li_inc (j := 1) (lv' := [(2, .int (iI (j + 1))), (1, .int (iI (hv + ((j * L + w.2.2.2 j) - (j * L))))), (0, .ref W0)]) hx hb dX4_isBalanced_66 hl rfl (by decide) rfl (fun ls hl => ?_)
        refine lv_goto (tgt := 12) hx hb dX4_isBalanced_69 (by decide) ?_
        exact ih (j + 1) (hv + ((j * L + w.2.2.2 j) - (j * L))) (by omega) (by rw [sumZ_s _ hj.1]; omega) (by omega) _ _ hP hD hS _ (lv_sub hl [0, 1, 2] rfl)
  exact loop_12 (((n - 0) : Int) + 1).toNat 0 (w.1 + w.2.1) (by omega) (by rw [sumZ_0]; omega) (by omega) _ _ hP hD hS _ (lv_sub hl [0, 1, 2] rfl)
