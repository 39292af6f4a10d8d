set_option maxRecDepth 100000 in
set_option maxHeartbeats 4000000 in
theorem c_X5_meanLevel {l : Launch} {D : va_G} {cI cZ cJ : ClassId} (n : Int) (L : Int) (a : Int) (gd : Int) (w : Wt) (op : Int → Int) (tn : Int → Int) (cnt : Int) (ln : Int → Int) (dr : Int → Int) (pl : Int → Int) (rp : Rt) (S0 L0 W0 W1 G0 G1 G2 B0 B1 B2 B3 P0 L0t : Nat) (hn : 1 ≤ n ∧ n ≤ 6) (hL : 5 ≤ L ∧ L ≤ 40) (ha : 1 ≤ a ∧ a ≤ 50) (hw : WI n L a w) : CD l yX5_meanLevel wsX5_meanLevel 25 [.ref S0] D (ty3 cI cZ cJ) (cLs   S0 L0 L0t ++ cLa   L0 W0 G0 B0 P0 ++ cWa cI n L a gd w W0 W1 ++ cGa cI cZ op tn G0 G1 G2 ++ cFl cI cnt ln dr pl B0 B1 B2 B3 ++ cRp  rp P0) (FP.ddiv (FP.i2d (iI (sumZ (fun j => lvA n L a w j) n.toNat))) (FP.i2d (iI n))) (cLs   S0 L0 L0t ++ cLa   L0 W0 G0 B0 P0 ++ cWa cI n L a gd w W0 W1 ++ cGa cI cZ op tn G0 G1 G2 ++ cFl cI cnt ln dr pl B0 B1 B2 B3 ++ cRp  rp P0) := by
  refine ct_D (Qf := fun A => va_Qd (fun r (_ : Unit) => alike64 r (FP.ddiv (FP.i2d (iI (sumZ (fun j => lvA n L a w j) n.toNat))) (FP.i2d (iI n))) = true) (fun _ => cB D (ty3 cI cZ cJ) A (cLs   S0 L0 L0t ++ cLa   L0 W0 G0 B0 P0 ++ cWa cI n L a gd w W0 W1 ++ cGa cI cZ op tn G0 G1 G2 ++ cFl cI cnt ln dr pl B0 B1 B2 B3 ++ cRp  rp P0)) A) (by decide) rfl (Nat.le_of_ble_eq_true rfl) ?_
  intro p e s mI args below meth c_0 ls A hx hb hr hml hts hown hlocks hA hP hK hD hNW hS hl Q hQ
  have hown : s.vm.findClass RX5 = some mI.cls := hown
  have hl : lv_has ls 4 [(0, .ref S0)] := hl
  have hin_X2 : ∀ w ∈ wsX20, w ∈ wsX5_meanLevel := by decide +kernel
  have hin_X5 : ∀ w ∈ wsX50, w ∈ wsX5_meanLevel := by decide +kernel
  have hf_14 := hts (.fieldLink RX5 14 "LockStaircase" "ladder" "LLockStaircase$Ladder;") (by decide +kernel)
  refine li_const hx hb dX5_meanLevel_0 ?_
  refine lv_istore_n (lv' := [(1, .int (iI 0)), (0, .ref S0)]) hx hb dX5_meanLevel_1 rfl hl (by decide) rfl (fun ls hl => ?_)
  refine lv_aload_n hx hb dX5_meanLevel_2 rfl (lv_at hl 1 rfl) ?_
  refine li_get (ci := 5) (v := .ref L0) (C := RX5) (T := TX5) (N := 2) (q0 := 0) (k := 0) hx hb hts hin_X5 hown hK hP rfl rfl (by decide) hf_14 rfl rfl dX5_meanLevel_3 ?_
  refine li_getN (own := RX5) (ref := "LockStaircase$Ladder") (host := "LockStaircase") (index := 21) (ci := 2) (v := .ref W0) (C := RX2) (T := TX2) (N := 4) (q0 := 1) (k := 0) hx hb hts hin_X2 hown hK hP rfl rfl (by decide) hNW nw_X5_21 rfl rfl dX5_meanLevel_6 ?_
  refine cl_i0 (isC := [2, 3]) (isR := [0, 1, 4, 5, 6, 7, 8, 9, 10, 11]) (isN := [0, 1, 10, 11, 2, 3, 4, 5, 6, 7, 8, 9]) (wr := cLs   S0 L0 L0t ++ cLa   L0 W0 G0 B0 P0 ++ cGa cI cZ op tn G0 G1 G2 ++ cFl cI cnt ln dr pl B0 B1 B2 B3 ++ cRp  rp P0) (wn := cLs   S0 L0 L0t ++ cLa   L0 W0 G0 B0 P0 ++ cWa cI n L a gd w W0 W1 ++ cGa cI cZ op tn G0 G1 G2 ++ cFl cI cnt ln dr pl B0 B1 B2 B3 ++ cRp  rp P0) (As := []) (rest := []) (r := n) (ci := 4) (q0 := 0) ⟨hx, hb, hml, hown, hts⟩ (c_X4_count n L a gd w W0 W1 (by first | assumption | omega) (by first | assumption | omega) (by first | assumption | omega)) (cwV 0 hts gX5_meanLevel_X4_count rfl rfl rfl (by decide +kernel) ⟨Nat.le_of_ble_eq_true rfl, Nat.le_of_ble_eq_true rfl⟩) hK hNW hP hD hS hA rfl rfl rfl rfl (by decide) rfl rfl rfl rfl rfl rfl hl.1 rfl (Nat.le_of_ble_eq_true rfl) dX5_meanLevel_9 ⟨Nat.zero_le _, Nat.zero_le _⟩ (fun H locs hP hD hS => ?_)
  refine lv_istore_n (lv' := [(2, .int (iI n)), (1, .int (iI 0)), (0, .ref S0)]) hx hb dX5_meanLevel_12 rfl hl (by decide) rfl (fun ls hl => ?_)
  refine li_const hx hb dX5_meanLevel_13 ?_
  refine lv_istore_n (lv' := [(3, .int (iI 0)), (2, .int (iI n)), (1, .int (iI 0)), (0, .ref S0)]) hx hb dX5_meanLevel_14 rfl hl (by decide) rfl (fun ls hl => ?_)
  have loop_15 : ∀ (N : Nat) (j : Int) (sv : Int), (0 ≤ j ∧ j ≤ n) → (sv = sumZ (fun j => lvA n L a w j) j.toNat) → n - j < (N : Int) → ∀ (H : Heap) (locs : List Loc), va_P D vwCl (cLs   S0 L0 L0t ++ cLa   L0 W0 G0 B0 P0 ++ cWa cI n L a gd w W0 W1 ++ cGa cI cZ op tn G0 G1 G2 ++ cFl cI cnt ln dr pl B0 B1 B2 B3 ++ cRp  rp P0) H → va_D A (cLs   S0 L0 L0t ++ cLa   L0 W0 G0 B0 P0 ++ cWa cI n L a gd w W0 W1 ++ cGa cI cZ op tn G0 G1 G2 ++ cFl cI cnt ln dr pl B0 B1 B2 B3 ++ cRp  rp P0) → va_S A s.heap H locs → ∀ (ls : Array Slot), lv_has ls 4 [(3, .int (iI j)), (2, .int (iI n)), (1, .int (iI sv)), (0, .ref S0)] → W p l e (rK 25 0 0) s mI args below meth c_0 H locs 0 0 Q (F0 mI 15 ls []) := by
    intro N
    induction N with
    | zero =>
      intro j sv hj hh hN
      exact absurd hN (by omega)
    | succ N ih =>
      intro j sv hj hh hN H locs hP hD hS ls hl
      refine lv_iload_n hx hb dX5_meanLevel_15 rfl (lv_at hl 0 rfl) ?_
      refine lv_iload_n hx hb dX5_meanLevel_16 rfl (lv_at hl 1 rfl) ?_
      refine li_icmp_ge (tgt := 40) hx hb dX5_meanLevel_17 (by decide) (ib_i (by omega) (by omega)) (ib_i (by omega) (by omega)) (fun c_17 => ?_) (fun c_17 => ?_)
      · refine lv_iload_n hx hb dX5_meanLevel_40 rfl (lv_at hl 1 rfl) ?_
        refine li_const hx hb dX5_meanLevel_41 ?_
        refine li_icmp_ge_t (tgt := 49) hx hb dX5_meanLevel_42 (by decide) (ib_i (by omega) (by omega)) (by decide) (by omega) ?_
        have e9 : sv = sumZ (fun j => lvA n L a w j) n.toNat := by rw [hh, show j = n by omega]
        subst e9
        refine lv_iload_n hx hb dX5_meanLevel_49 rfl (lv_at hl 2 rfl) ?_
        refine lv_i2d hx hb dX5_meanLevel_50 ?_
        refine lv_iload_n hx hb dX5_meanLevel_51 rfl (lv_at hl 1 rfl) ?_
        refine lv_i2d hx hb dX5_meanLevel_52 ?_
        refine W.base ?_
        refine lv_ddiv_any (Drawn.sameBut.refl s.drawn lw_cs) lw_bits hx hb dX5_meanLevel_53 (fun r9 d1 hal hd1 => ?_)
        exact li_dret hal hx hb hr hlocks hK hP hD hS dX5_meanLevel_54 hQ hd1 rfl
      · refine lv_iload_n hx hb dX5_meanLevel_20 rfl (lv_at hl 2 rfl) ?_
        refine lv_aload_n hx hb dX5_meanLevel_21 rfl (lv_at hl 3 rfl) ?_
        refine li_get (ci := 5) (v := .ref L0) (C := RX5) (T := TX5) (N := 2) (q0 := 0) (k := 0) hx hb hts hin_X5 hown hK hP rfl rfl (by decide) hf_14 rfl rfl dX5_meanLevel_22 ?_
        refine li_getN (own := RX5) (ref := "LockStaircase$Ladder") (host := "LockStaircase") (index := 21) (ci := 2) (v := .ref W0) (C := RX2) (T := TX2) (N := 4) (q0 := 1) (k := 0) hx hb hts hin_X2 hown hK hP rfl rfl (by decide) hNW nw_X5_21 rfl rfl dX5_meanLevel_25 ?_
        refine lv_iload_n hx hb dX5_meanLevel_28 rfl (lv_at hl 0 rfl) ?_
        refine cl_i0 (isC := [2, 3]) (isR := [0, 1, 4, 5, 6, 7, 8, 9, 10, 11]) (isN := [0, 1, 10, 11, 2, 3, 4, 5, 6, 7, 8, 9]) (wr := cLs   S0 L0 L0t ++ cLa   L0 W0 G0 B0 P0 ++ cGa cI cZ op tn G0 G1 G2 ++ cFl cI cnt ln dr pl B0 B1 B2 B3 ++ cRp  rp P0) (wn := cLs   S0 L0 L0t ++ cLa   L0 W0 G0 B0 P0 ++ cWa cI n L a gd w W0 W1 ++ cGa cI cZ op tn G0 G1 G2 ++ cFl cI cnt ln dr pl B0 B1 B2 B3 ++ cRp  rp P0) (As := [.int (iI j)]) (rest := [.int (iI sv)]) (r := lvA n L a w j) (ci := 4) (q0 := 0) ⟨hx, hb, hml, hown, hts⟩ (c_X4_levelAt n L a gd w W0 W1 j (by first | assumption | omega) (by first | assumption | omega) (by first | assumption | omega) (by first | assumption | omega) (by first | assumption | omega)) (cwV 1 hts gX5_meanLevel_X4_levelAt rfl rfl rfl (by decide +kernel) ⟨Nat.le_of_ble_eq_true rfl, Nat.le_of_ble_eq_true rfl⟩) hK hNW hP hD hS hA rfl rfl rfl rfl (by decide) rfl rfl rfl rfl rfl rfl hl.1 rfl (Nat.le_of_ble_eq_true rfl) dX5_meanLevel_29 ⟨Nat.zero_le _, Nat.zero_le _⟩ (fun H locs hP hD hS => ?_)
        refine li_add hx hb dX5_meanLevel_32 ?_
        refine lv_istore_n (lv' := [(1, .int (iI (sv + (lvA n L a w j)))), (3, .int (iI j)), (2, .int (iI n)), (0, .ref S0)]) hx hb dX5_meanLevel_33 rfl hl (by decide) rfl (fun ls hl => ?_)
        refine li_inc (j := 1) (lv' := [(3, .int (iI (j + 1))), (1, .int (iI (sv + (lvA n L a w j)))), (2, .int (iI n)), (0, .ref S0)]) hx hb dX5_meanLevel_34 hl rfl (by decide) rfl (fun ls hl => ?_)
        refine lv_goto (tgt := 15) hx hb dX5_meanLevel_37 (by decide) ?_
        exact ih (j + 1) (sv + (lvA n L a w j)) (by omega) (by rw [sumZ_s _ hj.1, hh]) (by omega) _ _ hP hD hS _ (lv_sub hl [0, 2, 1, 3] rfl)
  exact loop_15 (((n - 0) : Int) + 1).toNat 0 0 (by omega) (by rfl) (by omega) _ _ hP hD hS _ (lv_sub hl [0, 1, 2, 3] rfl)

set_option maxRecDepth 100000 in
set_option maxHeartbeats 4000000 in
theorem c_X5_poundPart {l : Launch} {D : va_G} {cI cZ cJ : ClassId} (n : Int) (L : Int) (a : Int) (gd : Int) (w : Wt) (op : Int → Int) (tn : Int → Int) (cnt : Int) (ln : Int → Int) (dr : Int → Int) (pl : Int → Int) (rp : Rt) (S0 L0 W0 W1 G0 G1 G2 B0 B1 B2 B3 P0 L0t : Nat) (hn : 1 ≤ n ∧ n ≤ 6) (hL : 5 ≤ L ∧ L ≤ 40) (ha : 1 ≤ a ∧ a ≤ 50) : CF l yX5_poundPart wsX5_poundPart 25 [.ref S0] D (ty3 cI cZ cJ) (cLs   S0 L0 L0t ++ cLa   L0 W0 G0 B0 P0 ++ cWa cI n L a gd w W0 W1 ++ cGa cI cZ op tn G0 G1 G2 ++ cFl cI cnt ln dr pl B0 B1 B2 B3 ++ cRp  rp P0) (FP.fdiv (FP.i2f (iI w.1)) (FP.i2f (iI (20 * a)))) (cLs   S0 L0 L0t ++ cLa   L0 W0 G0 B0 P0 ++ cWa cI n L a gd w W0 W1 ++ cGa cI cZ op tn G0 G1 G2 ++ cFl cI cnt ln dr pl B0 B1 B2 B3 ++ cRp  rp P0) := by
  refine ct_D (Qf := fun A => va_Qf (fun r (_ : Unit) => alike32 r (FP.fdiv (FP.i2f (iI w.1)) (FP.i2f (iI (20 * a)))) = true) (fun _ => cB D (ty3 cI cZ cJ) A (cLs   S0 L0 L0t ++ cLa   L0 W0 G0 B0 P0 ++ cWa cI n L a gd w W0 W1 ++ cGa cI cZ op tn G0 G1 G2 ++ cFl cI cnt ln dr pl B0 B1 B2 B3 ++ cRp  rp P0)) A) (by decide) rfl (Nat.le_of_ble_eq_true rfl) ?_
  intro p e s mI args below meth c_0 ls A hx hb hr hml hts hown hlocks hA hP hK hD hNW hS hl Q hQ
  have hown : s.vm.findClass RX5 = some mI.cls := hown
  have hl : lv_has ls 2 [(0, .ref S0)] := hl
  have hin_X2 : ∀ w ∈ wsX20, w ∈ wsX5_poundPart := by decide +kernel
  have hin_X4 : ∀ w ∈ wsX40, w ∈ wsX5_poundPart := by decide +kernel
  have hin_X5 : ∀ w ∈ wsX50, w ∈ wsX5_poundPart := by decide +kernel
  have hf_14 := hts (.fieldLink RX5 14 "LockStaircase" "ladder" "LLockStaircase$Ladder;") (by decide +kernel)
  refine lv_aload_n hx hb dX5_poundPart_0 rfl (lv_at hl 0 rfl) ?_
  refine li_get (ci := 5) (v := .ref L0) (C := RX5) (T := TX5) (N := 2) (q0 := 0) (k := 0) hx hb hts hin_X5 hown hK hP rfl rfl (by decide) hf_14 rfl rfl dX5_poundPart_1 ?_
  refine li_getN (own := RX5) (ref := "LockStaircase$Ladder") (host := "LockStaircase") (index := 21) (ci := 2) (v := .ref W0) (C := RX2) (T := TX2) (N := 4) (q0 := 1) (k := 0) hx hb hts hin_X2 hown hK hP rfl rfl (by decide) hNW nw_X5_21 rfl rfl dX5_poundPart_4 ?_
  refine cl_i0 (isC := [2, 3]) (isR := [0, 1, 4, 5, 6, 7, 8, 9, 10, 11]) (isN := [0, 1, 10, 11, 2, 3, 4, 5, 6, 7, 8, 9]) (wr := cLs   S0 L0 L0t ++ cLa   L0 W0 G0 B0 P0 ++ cGa cI cZ op tn G0 G1 G2 ++ cFl cI cnt ln dr pl B0 B1 B2 B3 ++ cRp  rp P0) (wn := cLs   S0 L0 L0t ++ cLa   L0 W0 G0 B0 P0 ++ cWa cI n L a gd w W0 W1 ++ cGa cI cZ op tn G0 G1 G2 ++ cFl cI cnt ln dr pl B0 B1 B2 B3 ++ cRp  rp P0) (As := []) (rest := []) (r := 20 * a) (ci := 4) (q0 := 0) ⟨hx, hb, hml, hown, hts⟩ (c_X4_fullPound n L a gd w W0 W1 ) (cwV 0 hts gX5_poundPart_X4_fullPound rfl rfl rfl (by decide +kernel) ⟨Nat.le_of_ble_eq_true rfl, Nat.le_of_ble_eq_true rfl⟩) hK hNW hP hD hS hA rfl rfl rfl rfl (by decide) rfl rfl rfl rfl rfl rfl hl.1 rfl (Nat.le_of_ble_eq_true rfl) dX5_poundPart_7 ⟨Nat.zero_le _, Nat.zero_le _⟩ (fun H locs hP hD hS => ?_)
  refine lv_istore_n (lv' := [(1, .int (iI (20 * a))), (0, .ref S0)]) hx hb dX5_poundPart_10 rfl hl (by decide) rfl (fun ls hl => ?_)
  refine lv_iload_n hx hb dX5_poundPart_11 rfl (lv_at hl 0 rfl) ?_
  refine li_const hx hb dX5_poundPart_12 ?_
  refine li_icmp_ge_t (tgt := 20) hx hb dX5_poundPart_13 (by decide) (ib_i (by omega) (by omega)) (by decide) (by omega) ?_
  refine lv_aload_n hx hb dX5_poundPart_20 rfl (lv_at hl 1 rfl) ?_
  refine li_get (ci := 5) (v := .ref L0) (C := RX5) (T := TX5) (N := 2) (q0 := 0) (k := 0) hx hb hts hin_X5 hown hK hP rfl rfl (by decide) hf_14 rfl rfl dX5_poundPart_21 ?_
  refine li_getN (own := RX5) (ref := "LockStaircase$Ladder") (host := "LockStaircase") (index := 21) (ci := 2) (v := .ref W0) (C := RX2) (T := TX2) (N := 4) (q0 := 1) (k := 0) hx hb hts hin_X2 hown hK hP rfl rfl (by decide) hNW nw_X5_21 rfl rfl dX5_poundPart_24 ?_
  refine li_getN (own := RX5) (ref := "LockStaircase$Water") (host := "LockStaircase") (index := 42) (ci := 4) (v := .int (iI w.1)) (C := RX4) (T := TX4) (N := 8) (q0 := 2) (k := 4) hx hb hts hin_X4 hown hK hP rfl rfl (by decide) hNW nw_X5_42 rfl rfl dX5_poundPart_27 ?_
  refine lv_i2f hx hb dX5_poundPart_30 ?_
  refine lv_iload_n hx hb dX5_poundPart_31 rfl (lv_at hl 0 rfl) ?_
  refine lv_i2f hx hb dX5_poundPart_32 ?_
  refine W.base ?_
  refine lv_fdiv_any (Drawn.sameBut.refl s.drawn lw_cs) lw_bits hx hb dX5_poundPart_33 (fun r9 d1 hal hd1 => ?_)
  exact li_fret hal hx hb hr hlocks hK hP hD hS dX5_poundPart_34 hQ hd1 rfl

set_option maxRecDepth 100000 in
set_option maxHeartbeats 4000000 in
theorem c_X6_meanLevel {l : Launch} {D : va_G} {cI cZ cJ : ClassId} (n : Int) (L : Int) (a : Int) (rn : Int) (sp : Int) (cnt : Int) (th : Int) (w : Wt) (op : Int → Int) (tn : Int → Int) (pl : Int → Int) (en : Int) (kd : Int → Int) (nb : Int → Int) (as : Int → Int) (ln : Int → Int) (dr : Int → Int) (M0 M1 M2 M3 M4 : Nat) (hn : 1 ≤ n ∧ n ≤ 6) (hL : 5 ≤ L ∧ L ≤ 40) (ha : 1 ≤ a ∧ a ≤ 50) (hw : WI n L a w) : CD l yX6_meanLevel wsX6_meanLevel 25 [.ref M0] D (ty3 cI cZ cJ) (cMd cI n L a rn sp cnt th (rowF w op tn pl en kd nb) as ln dr M0 M1 M2 M3 M4) (FP.ddiv (FP.i2d (iI (sumZ (fun j => lvA n L a w j) n.toNat))) (FP.i2d (iI n))) (cMd cI n L a rn sp cnt 0 (rowF w op tn pl en kd nb) as ln dr M0 M1 M2 M3 M4) := by
  refine ct_D (Qf := fun A => va_Qd (fun r (_ : Unit) => alike64 r (FP.ddiv (FP.i2d (iI (sumZ (fun j => lvA n L a w j) n.toNat))) (FP.i2d (iI n))) = true) (fun _ => cB D (ty3 cI cZ cJ) A (cMd cI n L a rn sp cnt 0 (rowF w op tn pl en kd nb) as ln dr M0 M1 M2 M3 M4)) A) (by decide) rfl (Nat.le_of_ble_eq_true rfl) ?_
  intro p e s mI args below meth c_0 ls A hx hb hr hml hts hown hlocks hA hP hK hD hNW hS hl Q hQ
  have hown : s.vm.findClass RX6 = some mI.cls := hown
  have hl : lv_has ls 3 [(0, .ref M0)] := hl
  have hin_X6 : ∀ w ∈ wsX60, w ∈ wsX6_meanLevel := by decide +kernel
  have hf_26 := hts (.fieldLink RX6 26 "LockStaircaseModel" "chambers" "I") (by decide +kernel)
  have hf_40 := hts (.fieldLink RX6 40 "LockStaircaseModel" "thrown" "I") (by decide +kernel)
  refine lv_aload_n hx hb dX6_meanLevel_0 rfl (lv_at hl 0 rfl) ?_
  refine li_const hx hb dX6_meanLevel_1 ?_
  refine li_put (ci := 6) (v := .int (iI 0)) (ty := .int) (C := RX6) (T := TX6) (N := 11) (q0 := 0) (k := 10) (w2 := cMd cI n L a rn sp cnt 0 (rowF w op tn pl en kd nb) as ln dr M0 M1 M2 M3 M4) hx hb hts hin_X6 tyX6_ok nmX6 hown hK hP hD hS rfl rfl (by decide) hf_40 rfl rfl (by decide +kernel) rfl rfl (Nat.le_of_ble_eq_true rfl) dX6_meanLevel_2 rfl (fun H locs hP hD hS => ?_)
  refine li_const hx hb dX6_meanLevel_5 ?_
  refine lv_istore_n (lv' := [(1, .int (iI 0)), (0, .ref M0)]) hx hb dX6_meanLevel_6 rfl hl (by decide) rfl (fun ls hl => ?_)
  refine li_const hx hb dX6_meanLevel_7 ?_
  refine lv_istore_n (lv' := [(2, .int (iI 0)), (1, .int (iI 0)), (0, .ref M0)]) hx hb dX6_meanLevel_8 rfl hl (by decide) rfl (fun ls hl => ?_)
  have loop_9 : ∀ (N : Nat) (j : Int) (sv : Int), (0 ≤ j ∧ j ≤ n) → (sv = sumZ (fun j => lvA n L a w j) j.toNat) → n - j < (N : Int) → ∀ (H : Heap) (locs : List Loc), va_P D vwCl (cMd cI n L a rn sp cnt 0 (rowF w op tn pl en kd nb) as ln dr M0 M1 M2 M3 M4) H → va_D A (cMd cI n L a rn sp cnt 0 (rowF w op tn pl en kd nb) as ln dr M0 M1 M2 M3 M4) → va_S A s.heap H locs → ∀ (ls : Array Slot), lv_has ls 3 [(2, .int (iI j)), (1, .int (iI sv)), (0, .ref M0)] → W p l e (rK 25 0 0) s mI args below meth c_0 H locs 0 0 Q (F0 mI 9 ls []) := by
    intro N
    induction N with
    | zero =>
      intro j sv hj hh hN
      exact absurd hN (by omega)
    | succ N ih =>
      intro j sv hj hh hN H locs hP hD hS ls hl
      refine lv_iload_n hx hb dX6_meanLevel_9 rfl (lv_at hl 0 rfl) ?_
      refine lv_aload_n hx hb dX6_meanLevel_10 rfl (lv_at hl 2 rfl) ?_
      refine li_get (ci := 6) (v := .int (iI n)) (C := RX6) (T := TX6) (N := 11) (q0 := 0) (k := 0) hx hb hts hin_X6 hown hK hP rfl rfl (by decide) hf_26 rfl rfl dX6_meanLevel_11 ?_
      refine li_icmp_ge (tgt := 31) hx hb dX6_meanLevel_14 (by decide) (ib_i (by omega) (by omega)) (ib_i (by omega) (by omega)) (fun c_14 => ?_) (fun c_14 => ?_)
      · have e9 : sv = sumZ (fun j => lvA n L a w j) n.toNat := by rw [hh, show j = n by omega]
        subst e9
        refine lv_iload_n hx hb dX6_meanLevel_31 rfl (lv_at hl 1 rfl) ?_
        refine lv_i2d hx hb dX6_meanLevel_32 ?_
        refine lv_aload_n hx hb dX6_meanLevel_33 rfl (lv_at hl 2 rfl) ?_
        refine li_get (ci := 6) (v := .int (iI n)) (C := RX6) (T := TX6) (N := 11) (q0 := 0) (k := 0) hx hb hts hin_X6 hown hK hP rfl rfl (by decide) hf_26 rfl rfl dX6_meanLevel_34 ?_
        refine lv_i2d hx hb dX6_meanLevel_37 ?_
        refine W.base ?_
        refine lv_ddiv_any (Drawn.sameBut.refl s.drawn lw_cs) lw_bits hx hb dX6_meanLevel_38 (fun r9 d1 hal hd1 => ?_)
        exact li_dret hal hx hb hr hlocks hK hP hD hS dX6_meanLevel_39 hQ hd1 rfl
      · refine lv_iload_n hx hb dX6_meanLevel_17 rfl (lv_at hl 1 rfl) ?_
        refine lv_aload_n hx hb dX6_meanLevel_18 rfl (lv_at hl 2 rfl) ?_
        refine lv_iload_n hx hb dX6_meanLevel_19 rfl (lv_at hl 0 rfl) ?_
        refine cl_i0 (isC := [0, 1, 2, 3, 4]) (isR := []) (isN := [0, 1, 2, 3, 4]) (wr := []) (wn := cMd cI n L a rn sp cnt 0 (rowF w op tn pl en kd nb) as ln dr M0 M1 M2 M3 M4) (As := [.int (iI j)]) (rest := [.int (iI sv)]) (r := j * L + w.2.2.2 j) (ci := 6) (q0 := 0) ⟨hx, hb, hml, hown, hts⟩ (c_X6_level n L a rn sp cnt 0 w op tn pl en kd nb as ln dr M0 M1 M2 M3 M4 j (by first | assumption | omega) (by first | assumption | omega) (by first | assumption | omega) (by first | assumption | omega)) (cwV 1 hts gX6_meanLevel_X6_level rfl rfl rfl (by decide +kernel) ⟨Nat.le_of_ble_eq_true rfl, Nat.le_of_ble_eq_true rfl⟩) hK hNW hP hD hS hA rfl rfl rfl rfl (by decide) rfl rfl rfl rfl rfl rfl hl.1 rfl (Nat.le_of_ble_eq_true rfl) dX6_meanLevel_20 ⟨Nat.zero_le _, Nat.zero_le _⟩ (fun H locs hP hD hS => ?_)
        refine li_add hx hb dX6_meanLevel_23 ?_
        refine lv_istore_n (lv' := [(1, .int (iI (sv + (j * L + w.2.2.2 j)))), (2, .int (iI j)), (0, .ref M0)]) hx hb dX6_meanLevel_24 rfl hl (by decide) rfl (fun ls hl => ?_)
        refine li_inc (j := 1) (lv' := [(2, .int (iI (j + 1))), (1, .int (iI (sv + (j * L + w.2.2.2 j)))), (0, .ref M0)]) hx hb dX6_meanLevel_25 hl rfl (by decide) rfl (fun ls hl => ?_)
        refine lv_goto (tgt := 9) hx hb dX6_meanLevel_28 (by decide) ?_
        exact ih (j + 1) (sv + (j * L + w.2.2.2 j)) (by omega) (by rw [sumZ_s _ hj.1, hh]; show _ = _ + lvA n L a w j; rw [lvA_c (by omega) (by omega)]) (by omega) _ _ hP hD hS _ (lv_sub hl [0, 1, 2] rfl)
  exact loop_9 (((n - 0) : Int) + 1).toNat 0 0 (by omega) (by rfl) (by omega) _ _ hP hD hS _ (lv_sub hl [0, 1, 2] rfl)

set_option maxRecDepth 100000 in
set_option maxHeartbeats 4000000 in
theorem c_X6_poundPart {l : Launch} {D : va_G} {cI cZ cJ : ClassId} (n : Int) (L : Int) (a : Int) (rn : Int) (sp : Int) (cnt : Int) (th : Int) (w : Wt) (op : Int → Int) (tn : Int → Int) (pl : Int → Int) (en : Int) (kd : Int → Int) (nb : Int → Int) (as : Int → Int) (ln : Int → Int) (dr : Int → Int) (M0 M1 M2 M3 M4 : Nat) (hn : 1 ≤ n ∧ n ≤ 6) (hL : 5 ≤ L ∧ L ≤ 40) (ha : 1 ≤ a ∧ a ≤ 50) : CF l yX6_poundPart wsX6_poundPart 25 [.ref M0] D (ty3 cI cZ cJ) (cMd cI n L a rn sp cnt th (rowF w op tn pl en kd nb) as ln dr M0 M1 M2 M3 M4) (FP.fdiv (FP.i2f (iI w.1)) (FP.i2f (iI (20 * a)))) (cMd cI n L a rn sp cnt 0 (rowF w op tn pl en kd nb) as ln dr M0 M1 M2 M3 M4) := by
  refine ct_D (Qf := fun A => va_Qf (fun r (_ : Unit) => alike32 r (FP.fdiv (FP.i2f (iI w.1)) (FP.i2f (iI (20 * a)))) = true) (fun _ => cB D (ty3 cI cZ cJ) A (cMd cI n L a rn sp cnt 0 (rowF w op tn pl en kd nb) as ln dr M0 M1 M2 M3 M4)) A) (by decide) rfl (Nat.le_of_ble_eq_true rfl) ?_
  intro p e s mI args below meth c_0 ls A hx hb hr hml hts hown hlocks hA hP hK hD hNW hS hl Q hQ
  have hown : s.vm.findClass RX6 = some mI.cls := hown
  have hl : lv_has ls 1 [(0, .ref M0)] := hl
  have hin_X6 : ∀ w ∈ wsX60, w ∈ wsX6_poundPart := by decide +kernel
  have hf_40 := hts (.fieldLink RX6 40 "LockStaircaseModel" "thrown" "I") (by decide +kernel)
  have hf_9 := hts (.fieldLink RX6 9 "LockStaircaseModel" "row" "[I") (by decide +kernel)
  refine lv_aload_n hx hb dX6_poundPart_0 rfl (lv_at hl 0 rfl) ?_
  refine li_const hx hb dX6_poundPart_1 ?_
  refine li_put (ci := 6) (v := .int (iI 0)) (ty := .int) (C := RX6) (T := TX6) (N := 11) (q0 := 0) (k := 10) (w2 := cMd cI n L a rn sp cnt 0 (rowF w op tn pl en kd nb) as ln dr M0 M1 M2 M3 M4) hx hb hts hin_X6 tyX6_ok nmX6 hown hK hP hD hS rfl rfl (by decide) hf_40 rfl rfl (by decide +kernel) rfl rfl (Nat.le_of_ble_eq_true rfl) dX6_poundPart_2 rfl (fun H locs hP hD hS => ?_)
  refine lv_aload_n hx hb dX6_poundPart_5 rfl (lv_at hl 0 rfl) ?_
  refine li_get (ci := 6) (v := .ref M1) (C := RX6) (T := TX6) (N := 11) (q0 := 0) (k := 5) hx hb hts hin_X6 hown hK hP rfl rfl (by decide) hf_9 rfl rfl dX6_poundPart_6 ?_
  refine li_const hx hb dX6_poundPart_9 ?_
  refine li_iald (q0 := 1) (t0 := 0) (g := (rowF w op tn pl en kd nb)) hx hb hK hP rfl rfl (by omega) (by omega) (by decide) dX6_poundPart_10 ?_
  refine li_top (b := w.1) (rd_W rfl) ?_
  refine lv_i2f hx hb dX6_poundPart_11 ?_
  refine lv_aload_n hx hb dX6_poundPart_12 rfl (lv_at hl 0 rfl) ?_
  refine cl_i0 (isC := [0, 1, 2, 3, 4]) (isR := []) (isN := [0, 1, 2, 3, 4]) (wr := []) (wn := cMd cI n L a rn sp cnt 0 (rowF w op tn pl en kd nb) as ln dr M0 M1 M2 M3 M4) (As := []) (rest := [.float (FP.i2f (iI w.1))]) (r := 20 * a) (ci := 6) (q0 := 0) ⟨hx, hb, hml, hown, hts⟩ (c_X6_full n L a rn sp cnt 0 w op tn pl en kd nb as ln dr M0 M1 M2 M3 M4 ) (cwV 0 hts gX6_poundPart_X6_full rfl rfl rfl (by decide +kernel) ⟨Nat.le_of_ble_eq_true rfl, Nat.le_of_ble_eq_true rfl⟩) hK hNW hP hD hS hA rfl rfl rfl rfl (by decide) rfl rfl rfl rfl rfl rfl hl.1 rfl (Nat.le_of_ble_eq_true rfl) dX6_poundPart_13 ⟨Nat.zero_le _, Nat.zero_le _⟩ (fun H locs hP hD hS => ?_)
  refine lv_i2f hx hb dX6_poundPart_16 ?_
  refine W.base ?_
  refine lv_fdiv_any (Drawn.sameBut.refl s.drawn lw_cs) lw_bits hx hb dX6_poundPart_17 (fun r9 d1 hal hd1 => ?_)
  exact li_fret hal hx hb hr hlocks hK hP hD hS dX6_poundPart_18 hQ hd1 rfl
