set_option maxRecDepth 100000 in
set_option maxHeartbeats 4000000 in
theorem c_X6_flowFromPound {l : Launch} {D : va_G} {cI cZ cJ : ClassId} (n : Int) (L : Int) (a : Int) (rn : Int) (sp : Int) (cnt : Int) (th : Int) (w : Wt) (op : Int → Int) (tn : Int → Int) (pl : Int → Int) (en : Int) (kd : Int → Int) (nb : Int → Int) (as : Int → Int) (ln : Int → Int) (dr : Int → Int) (M0 M1 M2 M3 M4 : Nat) (m : Int) (hn : 1 ≤ n ∧ n ≤ 6) (hL : 5 ≤ L ∧ L ≤ 40) (ha : 1 ≤ a ∧ a ≤ 50) (hw : WI n L a w) (hm : 0 ≤ m ∧ m ≤ 1000) : Di l yX6_flowFromPound wsX6_flowFromPound 4 [.ref M0, .int (iI m)] D (ty3 cI cZ cJ) (cMd cI n L a rn sp cnt th (rowF w op tn pl en kd nb) as ln dr M0 M1 M2 M3 M4) ((flW n L a n m.toNat w).1) (cMd cI n L a rn sp cnt th (rowF ((flW n L a n m.toNat w).2) op tn pl en kd nb) as ln dr M0 M1 M2 M3 M4) := by
  refine ct_i (plainFor_of_name (by decide)) rfl (Nat.le_of_ble_eq_true rfl) ?_
  intro p e s mI args below meth c_0 ls A hx hb hr hml hts hown hlocks hin hA hP hK hD hNW hS hl Q hQ
  have hown : s.vm.findClass RX6 = some mI.cls := hown
  have hl : lv_has ls 3 [(0, .ref M0), (1, .int (iI m))] := hl
  have hin_X6 : ∀ w ∈ wsX60, w ∈ wsX6_flowFromPound := by decide +kernel
  have hf_26 := hts (.fieldLink RX6 26 "LockStaircaseModel" "chambers" "I") (by decide +kernel)
  have hf_9 := hts (.fieldLink RX6 9 "LockStaircaseModel" "row" "[I") (by decide +kernel)
  refine li_const hx hb dX6_flowFromPound_0 ?_
  refine lv_istore_n (lv' := [(2, .int (iI 0)), (0, .ref M0), (1, .int (iI m))]) hx hb dX6_flowFromPound_1 rfl hl (by decide) rfl (fun ls hl => ?_)
  have loop_2 : ∀ (N : Nat) (i : Int) (w2 : Wt), (0 ≤ i ∧ i ≤ m) → (WI n L a w2) → (i + (flW n L a n (m - i).toNat w2).1 = (flW n L a n m.toNat w).1) → ((flW n L a n (m - i).toNat w2).2 = (flW n L a n m.toNat w).2) → m - i < (N : Int) → ∀ (H : Heap) (locs : List Loc), va_P D vwCl (cMd cI n L a rn sp cnt th (rowF w2 op tn pl en kd nb) as ln dr M0 M1 M2 M3 M4) H → va_D A (cMd cI n L a rn sp cnt th (rowF w2 op tn pl en kd nb) as ln dr M0 M1 M2 M3 M4) → va_S A s.heap H locs → ∀ (ls : Array Slot), lv_has ls 3 [(2, .int (iI i)), (0, .ref M0), (1, .int (iI m))] → W p l e (rK 4 0 0) s mI args below meth c_0 H locs 0 0 Q (F0 mI 2 ls []) := by
    intro N
    induction N with
    | zero =>
      intro i w2 hi hw2 hq1 hq2 hN
      exact absurd hN (by omega)
    | succ N ih =>
      intro i w2 hi hw2 hq1 hq2 hN H locs hP hD hS ls hl
      have b1 := lvA_b hn hL ha hw2 n (by omega)
      have e1 := lvA_c (L := L) (a := a) (w := w2) (show 0 ≤ n - 1 by omega) (show n - 1 < n by omega)
      have m1 := mu_b (g := n - 1) (by omega) (by omega) hL
      have u1 := hw2.2 (n - 1) (by omega) (by omega)
      refine lv_iload_n hx hb dX6_flowFromPound_2 rfl (lv_at hl 0 rfl) ?_
      refine lv_iload_n hx hb dX6_flowFromPound_3 rfl (lv_at hl 2 rfl) ?_
      refine li_icmp_ge (tgt := 57) hx hb dX6_flowFromPound_4 (by decide) (ib_i (by omega) (by omega)) (ib_i (by omega) (by omega)) (fun c_4 => ?_) (fun c_4 => ?_)
      · refine lv_iload_n hx hb dX6_flowFromPound_57 rfl (lv_at hl 0 rfl) ?_
        exact li_iret () hx hb hr hlocks hK hP hD hS dX6_flowFromPound_58 hQ (by first | (rw [← hq2, show (m - i).toNat = 0 by omega]; rfl) | (rw [← hq2, flW_f _ (by rw [canW_n]; exact decide_eq_false (by omega))])) (congrArg iI (by first | (rw [← hq1, show (m - i).toNat = 0 by omega]; show i = i + 0; omega) | (rw [← hq1, flW_f _ (by rw [canW_n]; exact decide_eq_false (by omega))]; show i = i + 0; omega)))
      · refine lv_aload_n hx hb dX6_flowFromPound_7 rfl (lv_at hl 1 rfl) ?_
        refine cl_i0 (isC := [0, 1, 2, 3, 4]) (isR := []) (isN := [0, 1, 2, 3, 4]) (wr := []) (wn := cMd cI n L a rn sp cnt th (rowF w2 op tn pl en kd nb) as ln dr M0 M1 M2 M3 M4) (As := []) (rest := []) (r := lvA n L a w2 n) (ci := 6) (q0 := 0) ⟨hx, hb, hml, hown, hts⟩ (c_X6_pound n L a rn sp cnt th w2 op tn pl en kd nb as ln dr M0 M1 M2 M3 M4 (by first | assumption | omega) (by first | assumption | omega) (by first | assumption | omega) (by exact hw2)) (cwV 0 hts gX6_flowFromPound_X6_pound rfl rfl rfl (by decide +kernel) ⟨Nat.le_of_ble_eq_true rfl, Nat.le_of_ble_eq_true rfl⟩) hK hNW hP hD hS hA rfl rfl rfl rfl (by decide) rfl rfl rfl rfl rfl rfl hl.1 rfl (Nat.le_of_ble_eq_true rfl) dX6_flowFromPound_8 ⟨Nat.zero_le _, Nat.zero_le _⟩ (fun H locs hP hD hS => ?_)
        refine lv_aload_n hx hb dX6_flowFromPound_11 rfl (lv_at hl 1 rfl) ?_
        refine lv_aload_n hx hb dX6_flowFromPound_12 rfl (lv_at hl 1 rfl) ?_
        refine li_get (ci := 6) (v := .int (iI n)) (C := RX6) (T := TX6) (N := 11) (q0 := 0) (k := 0) hx hb hts hin_X6 hown hK hP rfl rfl (by decide) hf_26 rfl rfl dX6_flowFromPound_13 ?_
        refine li_const hx hb dX6_flowFromPound_16 ?_
        refine li_sub hx hb dX6_flowFromPound_17 ?_
        refine cl_i0 (isC := [0, 1, 2, 3, 4]) (isR := []) (isN := [0, 1, 2, 3, 4]) (wr := []) (wn := cMd cI n L a rn sp cnt th (rowF w2 op tn pl en kd nb) as ln dr M0 M1 M2 M3 M4) (As := [.int (iI (n - 1))]) (rest := [.int (iI (lvA n L a w2 n))]) (r := (n - 1) * L + w2.2.2.2 (n - 1)) (ci := 6) (q0 := 0) ⟨hx, hb, hml, hown, hts⟩ (c_X6_level n L a rn sp cnt th w2 op tn pl en kd nb as ln dr M0 M1 M2 M3 M4 (n - 1) (by first | assumption | omega) (by first | assumption | omega) (by first | assumption | omega) (by first | assumption | omega)) (cwV 1 hts gX6_flowFromPound_X6_level rfl rfl rfl (by decide +kernel) ⟨Nat.le_of_ble_eq_true rfl, Nat.le_of_ble_eq_true rfl⟩) hK hNW hP hD hS hA rfl rfl rfl rfl (by decide) rfl rfl rfl rfl rfl rfl hl.1 rfl (Nat.le_of_ble_eq_true rfl) dX6_flowFromPound_18 ⟨Nat.zero_le _, Nat.zero_le _⟩ (fun H locs hP hD hS => ?_)
        refine li_icmp_le (tgt := 57) hx hb dX6_flowFromPound_21 (by decide) (ib_i (by omega) (by omega)) (ib_i (by omega) (by omega)) (fun c_21 => ?_) (fun c_21 => ?_)
        · refine lv_iload_n hx hb dX6_flowFromPound_57 rfl (lv_at hl 0 rfl) ?_
          exact li_iret () hx hb hr hlocks hK hP hD hS dX6_flowFromPound_58 hQ (by first | (rw [← hq2, show (m - i).toNat = 0 by omega]; rfl) | (rw [← hq2, flW_f _ (by rw [canW_n]; exact decide_eq_false (by omega))])) (congrArg iI (by first | (rw [← hq1, show (m - i).toNat = 0 by omega]; show i = i + 0; omega) | (rw [← hq1, flW_f _ (by rw [canW_n]; exact decide_eq_false (by omega))]; show i = i + 0; omega)))
        · have hcan : canW n L a n w2 = true := by
            rw [canW_n]; exact decide_eq_true (by omega)
          refine lv_aload_n hx hb dX6_flowFromPound_24 rfl (lv_at hl 1 rfl) ?_
          refine li_get (ci := 6) (v := .ref M1) (C := RX6) (T := TX6) (N := 11) (q0 := 0) (k := 5) hx hb hts hin_X6 hown hK hP rfl rfl (by decide) hf_9 rfl rfl dX6_flowFromPound_25 ?_
          refine li_const hx hb dX6_flowFromPound_28 ?_
          refine lv_dup2_11 hx hb dX6_flowFromPound_29 rfl rfl ?_
          refine li_iald (q0 := 1) (t0 := 0) (g := (rowF w2 op tn pl en kd nb)) hx hb hK hP rfl rfl (by omega) (by omega) (by decide) dX6_flowFromPound_30 ?_
          refine li_top (b := w2.1) (rd_W rfl) ?_
          refine li_const hx hb dX6_flowFromPound_31 ?_
          refine li_sub hx hb dX6_flowFromPound_32 ?_
          refine li_iast (q0 := 1) (t0 := 0) (g := (rowF w2 op tn pl en kd nb)) (w2 := cMd cI n L a rn sp cnt th (rowF (w2.1 - 1, w2.2.1, w2.2.2.1, w2.2.2.2) op tn pl en kd nb) as ln dr M0 M1 M2 M3 M4) hx hb hK hP hD hS rfl rfl (by omega) (by omega) (by decide) dX6_flowFromPound_33 (by rw [wr_W rfl] <;> rfl) (fun H locs hP hD hS => ?_)
          refine lv_aload_n hx hb dX6_flowFromPound_34 rfl (lv_at hl 1 rfl) ?_
          refine li_get (ci := 6) (v := .ref M1) (C := RX6) (T := TX6) (N := 11) (q0 := 0) (k := 5) hx hb hts hin_X6 hown hK hP rfl rfl (by decide) hf_9 rfl rfl dX6_flowFromPound_35 ?_
          refine li_const hx hb dX6_flowFromPound_38 ?_
          refine lv_aload_n hx hb dX6_flowFromPound_39 rfl (lv_at hl 1 rfl) ?_
          refine li_get (ci := 6) (v := .int (iI n)) (C := RX6) (T := TX6) (N := 11) (q0 := 0) (k := 0) hx hb hts hin_X6 hown hK hP rfl rfl (by decide) hf_26 rfl rfl dX6_flowFromPound_40 ?_
          refine li_add hx hb dX6_flowFromPound_43 ?_
          refine li_const hx hb dX6_flowFromPound_44 ?_
          refine li_sub hx hb dX6_flowFromPound_45 ?_
          refine lv_dup2_11 hx hb dX6_flowFromPound_46 rfl rfl ?_
          refine li_iald (q0 := 1) (t0 := 0) (g := (rowF (w2.1 - 1, w2.2.1, w2.2.2.1, w2.2.2.2) op tn pl en kd nb)) hx hb hK hP rfl rfl (by omega) (by omega) (ib_i (by omega) (by omega)) dX6_flowFromPound_47 ?_
          refine li_top (b := w2.2.2.2 (n - 1)) (rd_u (c := n - 1) (by omega) (by omega) (by omega)) ?_
          refine li_const hx hb dX6_flowFromPound_48 ?_
          refine li_add hx hb dX6_flowFromPound_49 ?_
          refine li_iast (q0 := 1) (t0 := 0) (g := (rowF (w2.1 - 1, w2.2.1, w2.2.2.1, w2.2.2.2) op tn pl en kd nb)) (w2 := cMd cI n L a rn sp cnt th (rowF (w2.1 - 1, w2.2.1, w2.2.2.1, upZ w2.2.2.2 (n - 1) ((w2.2.2.2 (n - 1)) + 1)) op tn pl en kd nb) as ln dr M0 M1 M2 M3 M4) hx hb hK hP hD hS rfl rfl (by omega) (by omega) (ib_i (by omega) (by omega)) dX6_flowFromPound_50 (by rw [wr_u (c := n - 1) (by omega) (by omega) (by omega)] <;> rfl) (fun H locs hP hD hS => ?_)
          refine li_inc (j := 0) (lv' := [(2, .int (iI (i + 1))), (0, .ref M0), (1, .int (iI m))]) hx hb dX6_flowFromPound_51 hl rfl (by decide) rfl (fun ls hl => ?_)
          refine lv_goto (tgt := 2) hx hb dX6_flowFromPound_54 (by decide) ?_
          have he9 : (m - i).toNat = (m - (i + 1)).toNat + 1 := by omega
          exact ih (i + 1) (w2.1 - 1, w2.2.1, w2.2.2.1, upZ w2.2.2.2 (n - 1) ((w2.2.2.2 (n - 1)) + 1)) (by omega) (by rw [← mvW_n hn]; exact mvW_WI hn hL ha (by omega) hw2 hcan) (by rw [← mvW_n hn]; rw [he9, flW_t _ hcan] at hq1; rw [← hq1]; show i + 1 + (flW n L a n (m - (i + 1)).toNat (mvW n n 1 w2)).1 = i + ((flW n L a n (m - (i + 1)).toNat (mvW n n 1 w2)).1 + 1); omega) (by rw [← mvW_n hn]; rw [he9, flW_t _ hcan] at hq2; exact hq2) (by omega) _ _ hP hD hS _ (lv_sub hl [0, 1, 2] rfl)
  exact loop_2 (((m - 0) : Int) + 1).toNat 0 w (by omega) (by exact hw) (by rw [Int.sub_zero, Int.zero_add]) (by rw [Int.sub_zero]) (by omega) _ _ hP hD hS _ (lv_sub hl [0, 1, 2] rfl)

set_option maxRecDepth 100000 in
set_option maxHeartbeats 4000000 in
theorem c_X6_flow {l : Launch} {D : va_G} {cI cZ cJ : ClassId} (n : Int) (L : Int) (a : Int) (rn : Int) (sp : Int) (cnt : Int) (th : Int) (w : Wt) (op : Int → Int) (tn : Int → Int) (pl : Int → Int) (en : Int) (kd : Int → Int) (nb : Int → Int) (as : Int → Int) (ln : Int → Int) (dr : Int → Int) (M0 M1 M2 M3 M4 : Nat) (g : Int) (m : Int) (hn : 1 ≤ n ∧ n ≤ 6) (hL : 5 ≤ L ∧ L ≤ 40) (ha : 1 ≤ a ∧ a ≤ 50) (hw : WI n L a w) (hg : 0 ≤ g ∧ g ≤ n) (hm : 0 ≤ m ∧ m ≤ 1000) : Di l yX6_flow wsX6_flow 5 [.ref M0, .int (iI g), .int (iI m)] D (ty3 cI cZ cJ) (cMd cI n L a rn sp cnt th (rowF w op tn pl en kd nb) as ln dr M0 M1 M2 M3 M4) ((flW n L a g m.toNat w).1) (cMd cI n L a rn sp cnt th (rowF ((flW n L a g m.toNat w).2) op tn pl en kd nb) as ln dr M0 M1 M2 M3 M4) := by
  refine ct_i (plainFor_of_name (by decide)) rfl (Nat.le_of_ble_eq_true rfl) ?_
  intro p e s mI args below meth c_0 ls A hx hb hr hml hts hown hlocks hin hA hP hK hD hNW hS hl Q hQ
  have hown : s.vm.findClass RX6 = some mI.cls := hown
  have hl : lv_has ls 4 [(0, .ref M0), (1, .int (iI g)), (2, .int (iI m))] := hl
  have hin_X6 : ∀ w ∈ wsX60, w ∈ wsX6_flow := by decide +kernel
  have hk_min := hts (.code Lib.Math.min.name Lib.Math.min.code 2 (some .int)) (by decide +kernel)
  have hf_26 := hts (.fieldLink RX6 26 "LockStaircaseModel" "chambers" "I") (by decide +kernel)
  have hf_30 := hts (.fieldLink RX6 30 "LockStaircaseModel" "lift" "I") (by decide +kernel)
  have hf_9 := hts (.fieldLink RX6 9 "LockStaircaseModel" "row" "[I") (by decide +kernel)
  have hi_Math := hts (.initialized "java/lang/Math") (by decide +kernel)
  have hm_43 := hts (.methodLink RX6 43 Lib.Math.min.name) (by decide +kernel)
  have hs_min := hts (.static Lib.Math.min.name) (by decide +kernel)
  refine lv_iload_n hx hb dX6_flow_0 rfl (lv_at hl 1 rfl) ?_
  refine lv_aload_n hx hb dX6_flow_1 rfl (lv_at hl 0 rfl) ?_
  refine li_get (ci := 6) (v := .int (iI n)) (C := RX6) (T := TX6) (N := 11) (q0 := 0) (k := 0) hx hb hts hin_X6 hown hK hP rfl rfl (by decide) hf_26 rfl rfl dX6_flow_2 ?_
  refine li_icmp_ne (tgt := 14) hx hb dX6_flow_5 (by decide) (ib_i (by omega) (by omega)) (ib_i (by omega) (by omega)) (fun c_5 => ?_) (fun c_5 => ?_)
  · have u1 := hw.2 g (by omega) (by omega)
    refine lv_iload_n hx hb dX6_flow_14 rfl (lv_at hl 2 rfl) ?_
    refine lv_aload_n hx hb dX6_flow_15 rfl (lv_at hl 0 rfl) ?_
    refine li_get (ci := 6) (v := .ref M1) (C := RX6) (T := TX6) (N := 11) (q0 := 0) (k := 5) hx hb hts hin_X6 hown hK hP rfl rfl (by decide) hf_9 rfl rfl dX6_flow_16 ?_
    refine li_const hx hb dX6_flow_19 ?_
    refine lv_iload_n hx hb dX6_flow_20 rfl (lv_at hl 1 rfl) ?_
    refine li_add hx hb dX6_flow_21 ?_
    refine li_iald (q0 := 1) (t0 := 0) (g := (rowF w op tn pl en kd nb)) hx hb hK hP rfl rfl (by omega) (by omega) (ib_i (by omega) (by omega)) dX6_flow_22 ?_
    refine li_top (b := w.2.2.2 g) (rd_u (c := g) (by omega) (by omega) (by omega)) ?_
    refine li_min hx hb (hml.trans hl.1.symm) hown hm_43 hs_min hi_Math hk_min (Nat.le_of_ble_eq_true rfl) (Nat.le_of_ble_eq_true rfl) (Nat.zero_le _) (Nat.zero_le _) (ib_i (by omega) (by omega)) (ib_i (by omega) (by omega)) dX6_flow_23 ?_
    refine lv_istore_n (lv' := [(3, .int (iI (if w.2.2.2 g < m then w.2.2.2 g else m))), (0, .ref M0), (1, .int (iI g)), (2, .int (iI m))]) hx hb dX6_flow_26 rfl hl (by decide) rfl (fun ls hl => ?_)
    refine lv_iload_n hx hb dX6_flow_27 rfl (lv_at hl 2 rfl) ?_
    refine li_if_le (tgt := 68) hx hb dX6_flow_28 (by decide) (ib_i (by omega) (by omega)) (fun c_28 => ?_) (fun c_28 => ?_)
    · refine lv_aload_n hx hb dX6_flow_68 rfl (lv_at hl 1 rfl) ?_
      refine li_get (ci := 6) (v := .ref M1) (C := RX6) (T := TX6) (N := 11) (q0 := 0) (k := 5) hx hb hts hin_X6 hown hK hP rfl rfl (by decide) hf_9 rfl rfl dX6_flow_69 ?_
      refine li_const hx hb dX6_flow_72 ?_
      refine lv_dup2_11 hx hb dX6_flow_73 rfl rfl ?_
      refine li_iald (q0 := 1) (t0 := 0) (g := (rowF w op tn pl en kd nb)) hx hb hK hP rfl rfl (by omega) (by omega) (by decide) dX6_flow_74 ?_
      refine li_top (b := w.2.1) (rd_Q rfl) ?_
      refine lv_iload_n hx hb dX6_flow_75 rfl (lv_at hl 0 rfl) ?_
      refine li_add hx hb dX6_flow_76 ?_
      refine li_iast (q0 := 1) (t0 := 0) (g := (rowF w op tn pl en kd nb)) (w2 := cMd cI n L a rn sp cnt th (rowF (w.1, w.2.1 + (if w.2.2.2 g < m then w.2.2.2 g else m), w.2.2.1, w.2.2.2) op tn pl en kd nb) as ln dr M0 M1 M2 M3 M4) hx hb hK hP hD hS rfl rfl (by omega) (by omega) (by decide) dX6_flow_77 (by rw [wr_Q rfl] <;> rfl) (fun H locs hP hD hS => ?_)
      refine lv_aload_n hx hb dX6_flow_78 rfl (lv_at hl 1 rfl) ?_
      refine li_get (ci := 6) (v := .ref M1) (C := RX6) (T := TX6) (N := 11) (q0 := 0) (k := 5) hx hb hts hin_X6 hown hK hP rfl rfl (by decide) hf_9 rfl rfl dX6_flow_79 ?_
      refine li_const hx hb dX6_flow_82 ?_
      refine lv_iload_n hx hb dX6_flow_83 rfl (lv_at hl 2 rfl) ?_
      refine li_add hx hb dX6_flow_84 ?_
      refine lv_dup2_11 hx hb dX6_flow_85 rfl rfl ?_
      refine li_iald (q0 := 1) (t0 := 0) (g := (rowF (w.1, w.2.1 + (if w.2.2.2 g < m then w.2.2.2 g else m), w.2.2.1, w.2.2.2) op tn pl en kd nb)) hx hb hK hP rfl rfl (by omega) (by omega) (ib_i (by omega) (by omega)) dX6_flow_86 ?_
      refine li_top (b := w.2.2.2 g) (rd_u (c := g) (by omega) (by omega) (by omega)) ?_
      refine lv_iload_n hx hb dX6_flow_87 rfl (lv_at hl 0 rfl) ?_
      refine li_sub hx hb dX6_flow_88 ?_
      refine li_iast (q0 := 1) (t0 := 0) (g := (rowF (w.1, w.2.1 + (if w.2.2.2 g < m then w.2.2.2 g else m), w.2.2.1, w.2.2.2) op tn pl en kd nb)) (w2 := cMd cI n L a rn sp cnt th (rowF (w.1, w.2.1 + (if w.2.2.2 g < m then w.2.2.2 g else m), w.2.2.1, upZ w.2.2.2 g ((w.2.2.2 g) - (if w.2.2.2 g < m then w.2.2.2 g else m))) op tn pl en kd nb) as ln dr M0 M1 M2 M3 M4) hx hb hK hP hD hS rfl rfl (by omega) (by omega) (ib_i (by omega) (by omega)) dX6_flow_89 (by rw [wr_u (c := g) (by omega) (by omega) (by omega)] <;> rfl) (fun H locs hP hD hS => ?_)
      refine lv_iload_n hx hb dX6_flow_90 rfl (lv_at hl 0 rfl) ?_
      exact li_iret () hx hb hr hlocks hK hP hD hS dX6_flow_91 hQ (by first | (rw [flW_r1 (by omega) hm.1 hw rfl]; try rfl) | (rw [flW_r0 (by omega) hm.1 hw rfl]; try rfl)) (congrArg iI (by first | (rw [flW_r1 (by omega) hm.1 hw rfl]; done) | (rw [flW_r0 (by omega) hm.1 hw rfl]; done)))
    · have u2 := hw.2 (g - 1) (by omega) (by omega)
      have kk : -1000 ≤ (if w.2.2.2 g < m then w.2.2.2 g else m) ∧ (if w.2.2.2 g < m then w.2.2.2 g else m) ≤ 1000 := by split <;> omega
      refine lv_iload_n hx hb dX6_flow_31 rfl (lv_at hl 0 rfl) ?_
      refine lv_aload_n hx hb dX6_flow_32 rfl (lv_at hl 1 rfl) ?_
      refine li_get (ci := 6) (v := .int (iI L)) (C := RX6) (T := TX6) (N := 11) (q0 := 0) (k := 1) hx hb hts hin_X6 hown hK hP rfl rfl (by decide) hf_30 rfl rfl dX6_flow_33 ?_
      refine lv_aload_n hx hb dX6_flow_36 rfl (lv_at hl 1 rfl) ?_
      refine li_get (ci := 6) (v := .ref M1) (C := RX6) (T := TX6) (N := 11) (q0 := 0) (k := 5) hx hb hts hin_X6 hown hK hP rfl rfl (by decide) hf_9 rfl rfl dX6_flow_37 ?_
      refine li_const hx hb dX6_flow_40 ?_
      refine lv_iload_n hx hb dX6_flow_41 rfl (lv_at hl 2 rfl) ?_
      refine li_add hx hb dX6_flow_42 ?_
      refine li_const hx hb dX6_flow_43 ?_
      refine li_sub hx hb dX6_flow_44 ?_
      refine li_iald (q0 := 1) (t0 := 0) (g := (rowF w op tn pl en kd nb)) hx hb hK hP rfl rfl (by omega) (by omega) (ib_i (by omega) (by omega)) dX6_flow_45 ?_
      refine li_top (b := w.2.2.2 (g - 1)) (rd_u (c := g - 1) (by omega) (by omega) (by omega)) ?_
      refine li_sub hx hb dX6_flow_46 ?_
      refine li_min hx hb (hml.trans hl.1.symm) hown hm_43 hs_min hi_Math hk_min (Nat.le_of_ble_eq_true rfl) (Nat.le_of_ble_eq_true rfl) (Nat.zero_le _) (Nat.zero_le _) (ib_i (by omega) (by omega)) (ib_i (by omega) (by omega)) dX6_flow_47 ?_
      refine lv_istore_n (lv' := [(3, .int (iI (if L - (w.2.2.2 (g - 1)) < if w.2.2.2 g < m then w.2.2.2 g else m then L - (w.2.2.2 (g - 1)) else if w.2.2.2 g < m then w.2.2.2 g else m))), (0, .ref M0), (1, .int (iI g)), (2, .int (iI m))]) hx hb dX6_flow_50 rfl hl (by decide) rfl (fun ls hl => ?_)
      refine lv_aload_n hx hb dX6_flow_51 rfl (lv_at hl 1 rfl) ?_
      refine li_get (ci := 6) (v := .ref M1) (C := RX6) (T := TX6) (N := 11) (q0 := 0) (k := 5) hx hb hts hin_X6 hown hK hP rfl rfl (by decide) hf_9 rfl rfl dX6_flow_52 ?_
      refine li_const hx hb dX6_flow_55 ?_
      refine lv_iload_n hx hb dX6_flow_56 rfl (lv_at hl 2 rfl) ?_
      refine li_add hx hb dX6_flow_57 ?_
      refine li_const hx hb dX6_flow_58 ?_
      refine li_sub hx hb dX6_flow_59 ?_
      refine lv_dup2_11 hx hb dX6_flow_60 rfl rfl ?_
      refine li_iald (q0 := 1) (t0 := 0) (g := (rowF w op tn pl en kd nb)) hx hb hK hP rfl rfl (by omega) (by omega) (ib_i (by omega) (by omega)) dX6_flow_61 ?_
      refine li_top (b := w.2.2.2 (g - 1)) (rd_u (c := g - 1) (by omega) (by omega) (by omega)) ?_
      refine lv_iload_n hx hb dX6_flow_62 rfl (lv_at hl 0 rfl) ?_
      refine li_add hx hb dX6_flow_63 ?_
      refine li_iast (q0 := 1) (t0 := 0) (g := (rowF w op tn pl en kd nb)) (w2 := cMd cI n L a rn sp cnt th (rowF (w.1, w.2.1, w.2.2.1, upZ w.2.2.2 (g - 1) ((w.2.2.2 (g - 1)) + (if L - (w.2.2.2 (g - 1)) < if w.2.2.2 g < m then w.2.2.2 g else m then L - (w.2.2.2 (g - 1)) else if w.2.2.2 g < m then w.2.2.2 g else m))) op tn pl en kd nb) as ln dr M0 M1 M2 M3 M4) hx hb hK hP hD hS rfl rfl (by omega) (by omega) (ib_i (by omega) (by omega)) dX6_flow_64 (by rw [wr_u (c := g - 1) (by omega) (by omega) (by omega)] <;> rfl) (fun H locs hP hD hS => ?_)
      refine lv_goto (tgt := 78) hx hb dX6_flow_65 (by decide) ?_
      refine lv_aload_n hx hb dX6_flow_78 rfl (lv_at hl 1 rfl) ?_
      refine li_get (ci := 6) (v := .ref M1) (C := RX6) (T := TX6) (N := 11) (q0 := 0) (k := 5) hx hb hts hin_X6 hown hK hP rfl rfl (by decide) hf_9 rfl rfl dX6_flow_79 ?_
      refine li_const hx hb dX6_flow_82 ?_
      refine lv_iload_n hx hb dX6_flow_83 rfl (lv_at hl 2 rfl) ?_
      refine li_add hx hb dX6_flow_84 ?_
      refine lv_dup2_11 hx hb dX6_flow_85 rfl rfl ?_
      refine li_iald (q0 := 1) (t0 := 0) (g := (rowF (w.1, w.2.1, w.2.2.1, upZ w.2.2.2 (g - 1) ((w.2.2.2 (g - 1)) + (if L - (w.2.2.2 (g - 1)) < if w.2.2.2 g < m then w.2.2.2 g else m then L - (w.2.2.2 (g - 1)) else if w.2.2.2 g < m then w.2.2.2 g else m))) op tn pl en kd nb)) hx hb hK hP rfl rfl (by omega) (by omega) (ib_i (by omega) (by omega)) dX6_flow_86 ?_
      refine li_top (b := (upZ w.2.2.2 (g - 1) ((w.2.2.2 (g - 1)) + (if L - (w.2.2.2 (g - 1)) < if w.2.2.2 g < m then w.2.2.2 g else m then L - (w.2.2.2 (g - 1)) else if w.2.2.2 g < m then w.2.2.2 g else m))) g) (rd_u (c := g) (by omega) (by omega) (by omega)) ?_
      refine lv_iload_n hx hb dX6_flow_87 rfl (lv_at hl 0 rfl) ?_
      refine li_sub hx hb dX6_flow_88 ?_
      refine li_iast (q0 := 1) (t0 := 0) (g := (rowF (w.1, w.2.1, w.2.2.1, upZ w.2.2.2 (g - 1) ((w.2.2.2 (g - 1)) + (if L - (w.2.2.2 (g - 1)) < if w.2.2.2 g < m then w.2.2.2 g else m then L - (w.2.2.2 (g - 1)) else if w.2.2.2 g < m then w.2.2.2 g else m))) op tn pl en kd nb)) (w2 := cMd cI n L a rn sp cnt th (rowF (w.1, w.2.1, w.2.2.1, upZ (upZ w.2.2.2 (g - 1) ((w.2.2.2 (g - 1)) + (if L - (w.2.2.2 (g - 1)) < if w.2.2.2 g < m then w.2.2.2 g else m then L - (w.2.2.2 (g - 1)) else if w.2.2.2 g < m then w.2.2.2 g else m))) g (((upZ w.2.2.2 (g - 1) ((w.2.2.2 (g - 1)) + (if L - (w.2.2.2 (g - 1)) < if w.2.2.2 g < m then w.2.2.2 g else m then L - (w.2.2.2 (g - 1)) else if w.2.2.2 g < m then w.2.2.2 g else m))) g) - (if L - (w.2.2.2 (g - 1)) < if w.2.2.2 g < m then w.2.2.2 g else m then L - (w.2.2.2 (g - 1)) else if w.2.2.2 g < m then w.2.2.2 g else m))) op tn pl en kd nb) as ln dr M0 M1 M2 M3 M4) hx hb hK hP hD hS rfl rfl (by omega) (by omega) (ib_i (by omega) (by omega)) dX6_flow_89 (by rw [wr_u (c := g) (by omega) (by omega) (by omega)] <;> rfl) (fun H locs hP hD hS => ?_)
      refine lv_iload_n hx hb dX6_flow_90 rfl (lv_at hl 0 rfl) ?_
      exact li_iret () hx hb hr hlocks hK hP hD hS dX6_flow_91 hQ (by first | (rw [flW_r1 (by omega) hm.1 hw rfl]; try rfl) | (rw [flW_r0 (by omega) hm.1 hw rfl]; try rfl)) (congrArg iI (by first | (rw [flW_r1 (by omega) hm.1 hw rfl]; done) | (rw [flW_r0 (by omega) hm.1 hw rfl]; done)))
  · refine lv_aload_n hx hb dX6_flow_8 rfl (lv_at hl 0 rfl) ?_
    refine lv_iload_n hx hb dX6_flow_9 rfl (lv_at hl 2 rfl) ?_
    refine cl_i0 (isC := [0, 1, 2, 3, 4]) (isR := []) (isN := [0, 1, 2, 3, 4]) (wr := []) (wn := cMd cI n L a rn sp cnt th (rowF ((flW n L a n m.toNat w).2) op tn pl en kd nb) as ln dr M0 M1 M2 M3 M4) (As := [.int (iI m)]) (rest := []) (r := (flW n L a n m.toNat w).1) (ci := 6) (q0 := 0) ⟨hx, hb, hml, hown, hts⟩ (c_X6_flowFromPound n L a rn sp cnt th w op tn pl en kd nb as ln dr M0 M1 M2 M3 M4 m (by first | assumption | omega) (by first | assumption | omega) (by first | assumption | omega) (by first | assumption | omega) (by first | assumption | omega)) (cwV 1 hts gX6_flow_X6_flowFromPound rfl rfl rfl (by decide +kernel) ⟨Nat.le_of_ble_eq_true rfl, Nat.le_of_ble_eq_true rfl⟩) hK hNW hP hD hS hA rfl rfl rfl rfl (by decide) rfl rfl rfl rfl rfl rfl hl.1 rfl (Nat.le_of_ble_eq_true rfl) dX6_flow_10 ⟨Nat.zero_le _, Nat.zero_le _⟩ (fun H locs hP hD hS => ?_)
    exact li_iret () hx hb hr hlocks hK hP hD hS dX6_flow_13 hQ (by rw [c_5]) (congrArg iI (by rw [c_5]))

set_option maxRecDepth 100000 in
set_option maxHeartbeats 4000000 in
theorem c_X6_flowAll {l : Launch} {D : va_G} {cI cZ cJ : ClassId} (n : Int) (L : Int) (a : Int) (rn : Int) (sp : Int) (cnt : Int) (th : Int) (w : Wt) (op : Int → Int) (tn : Int → Int) (pl : Int → Int) (en : Int) (kd : Int → Int) (nb : Int → Int) (as : Int → Int) (ln : Int → Int) (dr : Int → Int) (M0 M1 M2 M3 M4 : Nat) (hn : 1 ≤ n ∧ n ≤ 6) (hL : 5 ≤ L ∧ L ≤ 40) (ha : 1 ≤ a ∧ a ≤ 50) (hw : WI n L a w) (htn : tnB tn) : Di l yX6_flowAll wsX6_flowAll 6 [.ref M0] D (ty3 cI cZ cJ) (cMd cI n L a rn sp cnt th (rowF w op tn pl en kd nb) as ln dr M0 M1 M2 M3 M4) ((paW n L a tn (n + 1).toNat (tickW 1 w)).1) (cMd cI n L a rn sp cnt th (rowF ((paW n L a tn (n + 1).toNat (tickW 1 w)).2) op tn pl en kd nb) as ln dr M0 M1 M2 M3 M4) := by
  refine ct_i (plainFor_of_name (by decide)) rfl (Nat.le_of_ble_eq_true rfl) ?_
  intro p e s mI args below meth c_0 ls A hx hb hr hml hts hown hlocks hin hA hP hK hD hNW hS hl Q hQ
  have hown : s.vm.findClass RX6 = some mI.cls := hown
  have hl : lv_has ls 3 [(0, .ref M0)] := hl
  have hin_X6 : ∀ w ∈ wsX60, w ∈ wsX6_flowAll := by decide +kernel
  have hf_26 := hts (.fieldLink RX6 26 "LockStaircaseModel" "chambers" "I") (by decide +kernel)
  have hf_9 := hts (.fieldLink RX6 9 "LockStaircaseModel" "row" "[I") (by decide +kernel)
  refine li_const hx hb dX6_flowAll_0 ?_
  refine lv_istore_n (lv' := [(1, .int (iI 0)), (0, .ref M0)]) hx hb dX6_flowAll_1 rfl hl (by decide) rfl (fun ls hl => ?_)
  refine li_const hx hb dX6_flowAll_2 ?_
  refine lv_istore_n (lv' := [(2, .int (iI 0)), (1, .int (iI 0)), (0, .ref M0)]) hx hb dX6_flowAll_3 rfl hl (by decide) rfl (fun ls hl => ?_)
  have loop_4 : ∀ (N : Nat) (j : Int) (sv : Int) (w2 : Wt), (0 ≤ j ∧ j ≤ n + 1) → (sv = (paW n L a tn j.toNat w).1) → (w2 = (paW n L a tn j.toNat w).2) → n + 1 - j < (N : Int) → ∀ (H : Heap) (locs : List Loc), va_P D vwCl (cMd cI n L a rn sp cnt th (rowF w2 op tn pl en kd nb) as ln dr M0 M1 M2 M3 M4) H → va_D A (cMd cI n L a rn sp cnt th (rowF w2 op tn pl en kd nb) as ln dr M0 M1 M2 M3 M4) → va_S A s.heap H locs → ∀ (ls : Array Slot), lv_has ls 3 [(2, .int (iI j)), (1, .int (iI sv)), (0, .ref M0)] → W p l e (rK 6 0 0) s mI args below meth c_0 H locs 0 0 Q (F0 mI 4 ls []) := by
    intro N
    induction N with
    | zero =>
      intro j sv w2 hj hh hh2 hN
      exact absurd hN (by omega)
    | succ N ih =>
      intro j sv w2 hj hh hh2 hN H locs hP hD hS ls hl
      have t1 := htn j
      have hw2 : WI n L a w2 := by rw [hh2]; exact paW_WI hn hL ha _ _ (by omega) hw
      refine lv_iload_n hx hb dX6_flowAll_4 rfl (lv_at hl 0 rfl) ?_
      refine lv_aload_n hx hb dX6_flowAll_5 rfl (lv_at hl 2 rfl) ?_
      refine li_get (ci := 6) (v := .int (iI n)) (C := RX6) (T := TX6) (N := 11) (q0 := 0) (k := 0) hx hb hts hin_X6 hown hK hP rfl rfl (by decide) hf_26 rfl rfl dX6_flowAll_6 ?_
      refine li_icmp_gt (tgt := 37) hx hb dX6_flowAll_9 (by decide) (ib_i (by omega) (by omega)) (ib_i (by omega) (by omega)) (fun c_9 => ?_) (fun c_9 => ?_)
      · refine lv_aload_n hx hb dX6_flowAll_37 rfl (lv_at hl 2 rfl) ?_
        refine li_get (ci := 6) (v := .ref M1) (C := RX6) (T := TX6) (N := 11) (q0 := 0) (k := 5) hx hb hts hin_X6 hown hK hP rfl rfl (by decide) hf_9 rfl rfl dX6_flowAll_38 ?_
        refine li_const hx hb dX6_flowAll_41 ?_
        refine lv_dup2_11 hx hb dX6_flowAll_42 rfl rfl ?_
        refine li_iald (q0 := 1) (t0 := 0) (g := (rowF w2 op tn pl en kd nb)) hx hb hK hP rfl rfl (by omega) (by omega) (by decide) dX6_flowAll_43 ?_
        refine li_top (b := w2.2.2.1) (rd_T rfl) ?_
        refine li_const hx hb dX6_flowAll_44 ?_
        refine li_add hx hb dX6_flowAll_45 ?_
        refine li_iast (q0 := 1) (t0 := 0) (g := (rowF w2 op tn pl en kd nb)) (w2 := cMd cI n L a rn sp cnt th (rowF (w2.1, w2.2.1, w2.2.2.1 + 1, w2.2.2.2) op tn pl en kd nb) as ln dr M0 M1 M2 M3 M4) hx hb hK hP hD hS rfl rfl (by omega) (by omega) (by decide) dX6_flowAll_46 (by rw [wr_T rfl] <;> rfl) (fun H locs hP hD hS => ?_)
        refine lv_iload_n hx hb dX6_flowAll_47 rfl (lv_at hl 1 rfl) ?_
        exact li_iret () hx hb hr hlocks hK hP hD hS dX6_flowAll_48 hQ (by rw [paW_tk, hh2, show j = n + 1 by omega]; try rfl) (congrArg iI (by rw [paW_tk, hh, show j = n + 1 by omega]))
      · refine lv_iload_n hx hb dX6_flowAll_12 rfl (lv_at hl 1 rfl) ?_
        refine lv_aload_n hx hb dX6_flowAll_13 rfl (lv_at hl 2 rfl) ?_
        refine lv_iload_n hx hb dX6_flowAll_14 rfl (lv_at hl 0 rfl) ?_
        refine li_const hx hb dX6_flowAll_15 ?_
        refine lv_aload_n hx hb dX6_flowAll_16 rfl (lv_at hl 2 rfl) ?_
        refine li_get (ci := 6) (v := .ref M1) (C := RX6) (T := TX6) (N := 11) (q0 := 0) (k := 5) hx hb hts hin_X6 hown hK hP rfl rfl (by decide) hf_9 rfl rfl dX6_flowAll_17 ?_
        refine li_bipush hx hb dX6_flowAll_20 (by decide) ?_
        refine lv_iload_n hx hb dX6_flowAll_22 rfl (lv_at hl 0 rfl) ?_
        refine li_add hx hb dX6_flowAll_23 ?_
        refine li_iald (q0 := 1) (t0 := 0) (g := (rowF w2 op tn pl en kd nb)) hx hb hK hP rfl rfl (by omega) (by omega) (ib_i (by omega) (by omega)) dX6_flowAll_24 ?_
        refine li_top (b := tn j) (rd_t (c := j) (by omega) (by omega) (by omega)) ?_
        refine li_mul hx hb dX6_flowAll_25 ?_
        refine cl_i0 (isC := [0, 1, 2, 3, 4]) (isR := []) (isN := [0, 1, 2, 3, 4]) (wr := []) (wn := cMd cI n L a rn sp cnt th (rowF ((flW n L a j (4 * (tn j)).toNat w2).2) op tn pl en kd nb) as ln dr M0 M1 M2 M3 M4) (As := [.int (iI j), .int (iI (4 * (tn j)))]) (rest := [.int (iI sv)]) (r := (flW n L a j (4 * (tn j)).toNat w2).1) (ci := 6) (q0 := 0) ⟨hx, hb, hml, hown, hts⟩ (c_X6_flow n L a rn sp cnt th w2 op tn pl en kd nb as ln dr M0 M1 M2 M3 M4 j (4 * (tn j)) (by first | assumption | omega) (by first | assumption | omega) (by first | assumption | omega) (by exact hw2) (by first | assumption | omega) (by first | assumption | omega)) (cwV 2 hts gX6_flowAll_X6_flow rfl rfl rfl (by decide +kernel) ⟨Nat.le_of_ble_eq_true rfl, Nat.le_of_ble_eq_true rfl⟩) hK hNW hP hD hS hA rfl rfl rfl rfl (by decide) rfl rfl rfl rfl rfl rfl hl.1 rfl (Nat.le_of_ble_eq_true rfl) dX6_flowAll_26 ⟨Nat.zero_le _, Nat.zero_le _⟩ (fun H locs hP hD hS => ?_)
        refine li_add hx hb dX6_flowAll_29 ?_
        refine lv_istore_n (lv' := [(1, .int (iI (sv + ((flW n L a j (4 * (tn j)).toNat w2).1)))), (2, .int (iI j)), (0, .ref M0)]) hx hb dX6_flowAll_30 rfl hl (by decide) rfl (fun ls hl => ?_)
        refine li_inc (j := 1) (lv' := [(2, .int (iI (j + 1))), (1, .int (iI (sv + ((flW n L a j (4 * (tn j)).toNat w2).1)))), (0, .ref M0)]) hx hb dX6_flowAll_31 hl rfl (by decide) rfl (fun ls hl => ?_)
        refine lv_goto (tgt := 4) hx hb dX6_flowAll_34 (by decide) ?_
        have htt : tnA tn j = tn j := by unfold tnA; rw [if_pos (by omega)]
        exact ih (j + 1) (sv + ((flW n L a j (4 * (tn j)).toNat w2).1)) ((flW n L a j (4 * (tn j)).toNat w2).2) (by omega) (by rw [paW_s _ _ _ _ _ hj.1, hh, hh2, htt]) (by rw [paW_s _ _ _ _ _ hj.1, hh2, htt]) (by omega) _ _ hP hD hS _ (lv_sub hl [0, 1, 2] rfl)
  exact loop_4 (((n + 1 - 0) : Int) + 1).toNat 0 0 w (by omega) (by rfl) (by rfl) (by omega) _ _ hP hD hS _ (lv_sub hl [0, 1, 2] rfl)

set_option maxRecDepth 100000 in
set_option maxHeartbeats 4000000 in
theorem c_X6_runFor {l : Launch} {D : va_G} {cI cZ cJ : ClassId} (n : Int) (L : Int) (a : Int) (rn : Int) (sp : Int) (cnt : Int) (th : Int) (w : Wt) (op : Int → Int) (tn : Int → Int) (pl : Int → Int) (en : Int) (kd : Int → Int) (nb : Int → Int) (as : Int → Int) (ln : Int → Int) (dr : Int → Int) (M0 M1 M2 M3 M4 : Nat) (g : Int) (m : Int) (hn : 1 ≤ n ∧ n ≤ 6) (hL : 5 ≤ L ∧ L ≤ 40) (ha : 1 ≤ a ∧ a ≤ 50) (hw : WI n L a w) (hg : 0 ≤ g ∧ g ≤ n) (hm : 0 ≤ m ∧ m ≤ 1000) : Dv l yX6_runFor wsX6_runFor 6 [.ref M0, .int (iI g), .int (iI m)] D (ty3 cI cZ cJ) (cMd cI n L a rn sp cnt th (rowF w op tn pl en kd nb) as ln dr M0 M1 M2 M3 M4) (cMd cI n L a rn sp cnt th (rowF (rnW n L a g m.toNat w) op tn pl en kd nb) as ln dr M0 M1 M2 M3 M4) := by
  refine ct_v (plainFor_of_name (by decide)) rfl (Nat.le_of_ble_eq_true rfl) ?_
  intro p e s mI args below meth c_0 ls A hx hb hr hml hts hown hlocks hin hA hP hK hD hNW hS hl Q hQ
  have hown : s.vm.findClass RX6 = some mI.cls := hown
  have hl : lv_has ls 5 [(0, .ref M0), (1, .int (iI g)), (2, .int (iI m))] := hl
  have hin_X6 : ∀ w ∈ wsX60, w ∈ wsX6_runFor := by decide +kernel
  have hf_9 := hts (.fieldLink RX6 9 "LockStaircaseModel" "row" "[I") (by decide +kernel)
  refine lv_aload_n hx hb dX6_runFor_0 rfl (lv_at hl 0 rfl) ?_
  refine lv_iload_n hx hb dX6_runFor_1 rfl (lv_at hl 1 rfl) ?_
  refine lv_iload_n hx hb dX6_runFor_2 rfl (lv_at hl 2 rfl) ?_
  refine cl_i0 (isC := [0, 1, 2, 3, 4]) (isR := []) (isN := [0, 1, 2, 3, 4]) (wr := []) (wn := cMd cI n L a rn sp cnt th (rowF ((flW n L a g m.toNat w).2) op tn pl en kd nb) as ln dr M0 M1 M2 M3 M4) (As := [.int (iI g), .int (iI m)]) (rest := []) (r := (flW n L a g m.toNat w).1) (ci := 6) (q0 := 0) ⟨hx, hb, hml, hown, hts⟩ (c_X6_flow n L a rn sp cnt th w op tn pl en kd nb as ln dr M0 M1 M2 M3 M4 g m (by first | assumption | omega) (by first | assumption | omega) (by first | assumption | omega) (by first | assumption | omega) (by first | assumption | omega) (by first | assumption | omega)) (cwV 2 hts gX6_runFor_X6_flow rfl rfl rfl (by decide +kernel) ⟨Nat.le_of_ble_eq_true rfl, Nat.le_of_ble_eq_true rfl⟩) hK hNW hP hD hS hA rfl rfl rfl rfl (by decide) rfl rfl rfl rfl rfl rfl hl.1 rfl (Nat.le_of_ble_eq_true rfl) dX6_runFor_3 ⟨Nat.zero_le _, Nat.zero_le _⟩ (fun H locs hP hD hS => ?_)
  refine lv_istore_n (lv' := [(3, .int (iI ((flW n L a g m.toNat w).1))), (0, .ref M0), (1, .int (iI g)), (2, .int (iI m))]) hx hb dX6_runFor_6 rfl hl (by decide) rfl (fun ls hl => ?_)
  have hfl := flW_ge n L a g m.toNat w
  refine lv_iload_n hx hb dX6_runFor_7 rfl (lv_at hl 0 rfl) ?_
  refine lv_iload_n hx hb dX6_runFor_8 rfl (lv_at hl 3 rfl) ?_
  refine li_icmp_ge (tgt := 18) hx hb dX6_runFor_9 (by decide) (ib_i (by omega) (by omega)) (ib_i (by omega) (by omega)) (fun c_9 => ?_) (fun c_9 => ?_)
  · refine lv_iload_n hx hb dX6_runFor_18 rfl (lv_at hl 0 rfl) ?_
    refine lv_istore (lv' := [(4, .int (iI ((flW n L a g m.toNat w).1))), (3, .int (iI ((flW n L a g m.toNat w).1))), (0, .ref M0), (1, .int (iI g)), (2, .int (iI m))]) hx hb dX6_runFor_19 hl (by decide) rfl (fun ls hl => ?_)
    refine lv_aload_n hx hb dX6_runFor_21 rfl (lv_at hl 2 rfl) ?_
    refine li_get (ci := 6) (v := .ref M1) (C := RX6) (T := TX6) (N := 11) (q0 := 0) (k := 5) hx hb hts hin_X6 hown hK hP rfl rfl (by decide) hf_9 rfl rfl dX6_runFor_22 ?_
    refine li_const hx hb dX6_runFor_25 ?_
    refine lv_dup2_11 hx hb dX6_runFor_26 rfl rfl ?_
    refine li_iald (q0 := 1) (t0 := 0) (g := (rowF ((flW n L a g m.toNat w).2) op tn pl en kd nb)) hx hb hK hP rfl rfl (by omega) (by omega) (by decide) dX6_runFor_27 ?_
    refine li_top (b := ((flW n L a g m.toNat w).2).2.2.1) (rd_T rfl) ?_
    refine lv_iload hx hb dX6_runFor_28 (lv_at hl 0 rfl) ?_
    refine li_bipush hx hb dX6_runFor_30 (by decide) ?_
    refine li_add hx hb dX6_runFor_32 ?_
    refine li_const hx hb dX6_runFor_33 ?_
    refine li_sub hx hb dX6_runFor_34 ?_
    refine li_bipush hx hb dX6_runFor_35 (by decide) ?_
    refine li_div hx hb dX6_runFor_37 (by omega) (by omega) (ib_i (by omega) (by omega)) (by decide) ?_
    refine li_add hx hb dX6_runFor_38 ?_
    refine li_iast (q0 := 1) (t0 := 0) (g := (rowF ((flW n L a g m.toNat w).2) op tn pl en kd nb)) (w2 := cMd cI n L a rn sp cnt th (rowF (((flW n L a g m.toNat w).2).1, ((flW n L a g m.toNat w).2).2.1, (((flW n L a g m.toNat w).2).2.2.1) + (((((flW n L a g m.toNat w).1) + 20) - 1) / 20), ((flW n L a g m.toNat w).2).2.2.2) op tn pl en kd nb) as ln dr M0 M1 M2 M3 M4) hx hb hK hP hD hS rfl rfl (by omega) (by omega) (by decide) dX6_runFor_39 (by rw [wr_T rfl] <;> rfl) (fun H locs hP hD hS => ?_)
    exact li_vret () hx hb hr hlocks hK hP hD hS dX6_runFor_40 hQ (by unfold rnW tickW; first | (rw [if_pos (show (flW n L a g m.toNat w).1 < ((m.toNat : Nat) : Int) by omega), show (flW n L a g m.toNat w).1 + 1 + 20 - 1 = (flW n L a g m.toNat w).1 + 20 by omega]; try rfl) | (rw [if_neg (show ¬ (flW n L a g m.toNat w).1 < ((m.toNat : Nat) : Int) by omega), show (flW n L a g m.toNat w).1 + 20 - 1 = (flW n L a g m.toNat w).1 + 19 by omega]; try rfl)) trivial
  · refine lv_iload_n hx hb dX6_runFor_12 rfl (lv_at hl 0 rfl) ?_
    refine li_const hx hb dX6_runFor_13 ?_
    refine li_add hx hb dX6_runFor_14 ?_
    refine lv_goto (tgt := 19) hx hb dX6_runFor_15 (by decide) ?_
    refine lv_istore (lv' := [(4, .int (iI (((flW n L a g m.toNat w).1) + 1))), (3, .int (iI ((flW n L a g m.toNat w).1))), (0, .ref M0), (1, .int (iI g)), (2, .int (iI m))]) hx hb dX6_runFor_19 hl (by decide) rfl (fun ls hl => ?_)
    refine lv_aload_n hx hb dX6_runFor_21 rfl (lv_at hl 2 rfl) ?_
    refine li_get (ci := 6) (v := .ref M1) (C := RX6) (T := TX6) (N := 11) (q0 := 0) (k := 5) hx hb hts hin_X6 hown hK hP rfl rfl (by decide) hf_9 rfl rfl dX6_runFor_22 ?_
    refine li_const hx hb dX6_runFor_25 ?_
    refine lv_dup2_11 hx hb dX6_runFor_26 rfl rfl ?_
    refine li_iald (q0 := 1) (t0 := 0) (g := (rowF ((flW n L a g m.toNat w).2) op tn pl en kd nb)) hx hb hK hP rfl rfl (by omega) (by omega) (by decide) dX6_runFor_27 ?_
    refine li_top (b := ((flW n L a g m.toNat w).2).2.2.1) (rd_T rfl) ?_
    refine lv_iload hx hb dX6_runFor_28 (lv_at hl 0 rfl) ?_
    refine li_bipush hx hb dX6_runFor_30 (by decide) ?_
    refine li_add hx hb dX6_runFor_32 ?_
    refine li_const hx hb dX6_runFor_33 ?_
    refine li_sub hx hb dX6_runFor_34 ?_
    refine li_bipush hx hb dX6_runFor_35 (by decide) ?_
    refine li_div hx hb dX6_runFor_37 (by omega) (by omega) (ib_i (by omega) (by omega)) (by decide) ?_
    refine li_add hx hb dX6_runFor_38 ?_
    refine li_iast (q0 := 1) (t0 := 0) (g := (rowF ((flW n L a g m.toNat w).2) op tn pl en kd nb)) (w2 := cMd cI n L a rn sp cnt th (rowF (((flW n L a g m.toNat w).2).1, ((flW n L a g m.toNat w).2).2.1, (((flW n L a g m.toNat w).2).2.2.1) + ((((((flW n L a g m.toNat w).1) + 1) + 20) - 1) / 20), ((flW n L a g m.toNat w).2).2.2.2) op tn pl en kd nb) as ln dr M0 M1 M2 M3 M4) hx hb hK hP hD hS rfl rfl (by omega) (by omega) (by decide) dX6_runFor_39 (by rw [wr_T rfl] <;> rfl) (fun H locs hP hD hS => ?_)
    exact li_vret () hx hb hr hlocks hK hP hD hS dX6_runFor_40 hQ (by unfold rnW tickW; first | (rw [if_pos (show (flW n L a g m.toNat w).1 < ((m.toNat : Nat) : Int) by omega), show (flW n L a g m.toNat w).1 + 1 + 20 - 1 = (flW n L a g m.toNat w).1 + 20 by omega]; try rfl) | (rw [if_neg (show ¬ (flW n L a g m.toNat w).1 < ((m.toNat : Nat) : Int) by omega), show (flW n L a g m.toNat w).1 + 20 - 1 = (flW n L a g m.toNat w).1 + 19 by omega]; try rfl)) trivial

set_option maxRecDepth 100000 in
set_option maxHeartbeats 4000000 in
theorem cr_X6_lower {l : Launch} {D : va_G} {cI cZ cJ : ClassId} : ∀ (d : Nat) (n : Int) (L : Int) (a : Int) (rn : Int) (sp : Int) (cnt : Int) (th : Int) (w : Wt) (op : Int → Int) (tn : Int → Int) (pl : Int → Int) (en : Int) (kd : Int → Int) (nb : Int → Int) (as : Int → Int) (ln : Int → Int) (dr : Int → Int) (M0 M1 M2 M3 M4 : Nat) (c : Int) (t : Int) (hn : 1 ≤ n ∧ n ≤ 6) (hL : 5 ≤ L ∧ L ≤ 40) (ha : 1 ≤ a ∧ a ≤ 50) (hw : WI n L a w) (hc : 0 ≤ c ∧ c < n) (ht : 0 ≤ t ∧ t ≤ 100) (hd : c.toNat = d), Dv l yX6_lower wsX6_lower (8 + d) [.ref M0, .int (iI c), .int (iI t)] D (ty3 cI cZ cJ) (cMd cI n L a rn sp cnt th (rowF w op tn pl en kd nb) as ln dr M0 M1 M2 M3 M4) (cMd cI n L a rn sp cnt th (rowF (loM n L a c.toNat t w) op tn pl en kd nb) as ln dr M0 M1 M2 M3 M4) := by
  intro d
  induction d using Nat.strongRecOn with
  | ind d ihd =>
  intro n L a rn sp cnt th w op tn pl en kd nb as ln dr M0 M1 M2 M3 M4 c t hn hL ha hw hc ht hd
  refine ct_v (plainFor_of_name (by decide)) rfl (Nat.le_of_ble_eq_true rfl) ?_
  intro p e s mI args below meth c_0 ls A hx hb hr hml hts hown hlocks hin hA hP hK hD hNW hS hl Q hQ
  have hown : s.vm.findClass RX6 = some mI.cls := hown
  have hl : lv_has ls 3 [(0, .ref M0), (1, .int (iI c)), (2, .int (iI t))] := hl
  have hin_X6 : ∀ w ∈ wsX60, w ∈ wsX6_lower := by decide +kernel
  have hf_30 := hts (.fieldLink RX6 30 "LockStaircaseModel" "lift" "I") (by decide +kernel)
  have hf_9 := hts (.fieldLink RX6 9 "LockStaircaseModel" "row" "[I") (by decide +kernel)
  have loop_0 : ∀ (N : Nat) (r : Int) (w2 : Wt), (0 ≤ r) → (r + (w2.2.2.2 c - t) ≤ 100000) → (WI n L a w2) → (itW (loS n L a (loM n L a (c - 1).toNat 0) c t) c t (100000 - r).toNat w2 = loM n L a c.toNat t w) → w2.2.2.2 c - t + 100 < (N : Int) → ∀ (H : Heap) (locs : List Loc), va_P D vwCl (cMd cI n L a rn sp cnt th (rowF w2 op tn pl en kd nb) as ln dr M0 M1 M2 M3 M4) H → va_D A (cMd cI n L a rn sp cnt th (rowF w2 op tn pl en kd nb) as ln dr M0 M1 M2 M3 M4) → va_S A s.heap H locs → ∀ (ls : Array Slot), lv_has ls 3 [(0, .ref M0), (1, .int (iI c)), (2, .int (iI t))] → W p l e (rK (8 + d) 0 0) s mI args below meth c_0 H locs 0 0 Q (F0 mI 0 ls []) := by
    intro N
    induction N with
    | zero =>
      intro r w2 hrr hrm hw2 hq hN
      exact absurd hN (by have u9 := hw2.2 c hc.1 hc.2; omega)
    | succ N ih =>
      intro r w2 hrr hrm hw2 hq hN H locs hP hD hS ls hl
      have u1 := hw2.2 c hc.1 hc.2
      have hlo : 0 < c → WI n L a (loM n L a (c - 1).toNat 0 w2) ∧ (loM n L a (c - 1).toNat 0 w2).2.2.2 c = w2.2.2.2 c ∧ (loM n L a (c - 1).toNat 0 w2).2.2.2 (c - 1) ≤ 0 := fun q => by
        have l := (lo_le hn hL ha (c - 1).toNat 0 w2 (by omega) (Int.le_refl 0) hw2).1
        rw [Int.toNat_of_nonneg (by omega)] at l
        exact ⟨loM_WI hn hL ha _ _ _ (by omega) hw2, loM_keep _ _ _ _ (by omega) (by omega), l⟩
      refine lv_aload_n hx hb dX6_lower_0 rfl (lv_at hl 0 rfl) ?_
      refine li_get (ci := 6) (v := .ref M1) (C := RX6) (T := TX6) (N := 11) (q0 := 0) (k := 5) hx hb hts hin_X6 hown hK hP rfl rfl (by decide) hf_9 rfl rfl dX6_lower_1 ?_
      refine li_const hx hb dX6_lower_4 ?_
      refine lv_iload_n hx hb dX6_lower_5 rfl (lv_at hl 1 rfl) ?_
      refine li_add hx hb dX6_lower_6 ?_
      refine li_iald (q0 := 1) (t0 := 0) (g := (rowF w2 op tn pl en kd nb)) hx hb hK hP rfl rfl (by omega) (by omega) (ib_i (by omega) (by omega)) dX6_lower_7 ?_
      refine li_top (b := w2.2.2.2 c) (rd_u (c := c) (by omega) (by omega) (by omega)) ?_
      refine lv_iload_n hx hb dX6_lower_8 rfl (lv_at hl 2 rfl) ?_
      refine li_icmp_le (tgt := 59) hx hb dX6_lower_9 (by decide) (ib_i (by omega) (by omega)) (ib_i (by omega) (by omega)) (fun c_9 => ?_) (fun c_9 => ?_)
      · exact li_vret () hx hb hr hlocks hK hP hD hS dX6_lower_59 hQ (by rw [itW_f _ (by omega)] at hq; rw [hq]) trivial
      · refine lv_iload_n hx hb dX6_lower_12 rfl (lv_at hl 1 rfl) ?_
        refine li_if_le (tgt := 41) hx hb dX6_lower_13 (by decide) (ib_i (by omega) (by omega)) (fun c_13 => ?_) (fun c_13 => ?_)
        · have hw3 : WI n L a w2 := by first | exact hw2 | exact loM_WI hn hL ha _ _ _ (by omega) hw2
          have u3 := hw3.2 c hc.1 hc.2
          refine lv_aload_n hx hb dX6_lower_41 rfl (lv_at hl 0 rfl) ?_
          refine lv_iload_n hx hb dX6_lower_42 rfl (lv_at hl 1 rfl) ?_
          refine lv_aload_n hx hb dX6_lower_43 rfl (lv_at hl 0 rfl) ?_
          refine li_get (ci := 6) (v := .ref M1) (C := RX6) (T := TX6) (N := 11) (q0 := 0) (k := 5) hx hb hts hin_X6 hown hK hP rfl rfl (by decide) hf_9 rfl rfl dX6_lower_44 ?_
          refine li_const hx hb dX6_lower_47 ?_
          refine lv_iload_n hx hb dX6_lower_48 rfl (lv_at hl 1 rfl) ?_
          refine li_add hx hb dX6_lower_49 ?_
          refine li_iald (q0 := 1) (t0 := 0) (g := (rowF w2 op tn pl en kd nb)) hx hb hK hP rfl rfl (by omega) (by omega) (ib_i (by omega) (by omega)) dX6_lower_50 ?_
          refine li_top (b := w2.2.2.2 c) (rd_u (c := c) (by omega) (by omega) (by omega)) ?_
          refine lv_iload_n hx hb dX6_lower_51 rfl (lv_at hl 2 rfl) ?_
          refine li_sub hx hb dX6_lower_52 ?_
          refine cl_v0 (isC := [0, 1, 2, 3, 4]) (isR := []) (isN := [0, 1, 2, 3, 4]) (wr := []) (wn := cMd cI n L a rn sp cnt th (rowF (rnW n L a c ((w2.2.2.2 c) - t).toNat w2) op tn pl en kd nb) as ln dr M0 M1 M2 M3 M4) (As := [.int (iI c), .int (iI ((w2.2.2.2 c) - t))]) (rest := []) (ci := 6) (q0 := 0) ⟨hx, hb, hml, hown, hts⟩ (c_X6_runFor n L a rn sp cnt th w2 op tn pl en kd nb as ln dr M0 M1 M2 M3 M4 c ((w2.2.2.2 c) - t) (by first | assumption | omega) (by first | assumption | omega) (by first | assumption | omega) (by exact hw3) (by first | assumption | omega) (by first | omega | (have u9 := loM_keep (n := n) (L := L) (a := a) (c - 1) c 0 w2 (by omega) (by omega); omega))) (cwV 2 hts gX6_lower_X6_runFor rfl rfl rfl (by decide +kernel) ⟨by dsimp only [rK]; omega, by dsimp only [rK]; omega⟩) hK hNW hP hD hS hA rfl rfl rfl rfl (by decide) rfl rfl rfl rfl rfl rfl hl.1 rfl (Nat.le_of_ble_eq_true rfl) dX6_lower_53 ⟨Nat.zero_le _, Nat.zero_le _⟩ (fun H locs hP hD hS => ?_)
          refine lv_goto (tgt := 0) hx hb dX6_lower_56 (by decide) ?_
          have he9 : (100000 - r).toNat = (100000 - (r + 1)).toNat + 1 := by omega
          have hst := lo_step hL hc ht.1 hw2 (by omega) hlo
          have hle : loS n L a (loM n L a (c - 1).toNat 0) c t w2 = (rnW n L a c ((w2.2.2.2 c) - t).toNat w2) := by
            first | exact loS_a (by omega) | exact loS_b (by omega)
          rw [hle] at hst
          exact ih (r + 1) (rnW n L a c ((w2.2.2.2 c) - t).toNat w2) (by omega) (by omega) (by exact rnW_WI hn hL ha (by omega) _ hw3) (by rw [he9, itW_t _ (by omega), hle] at hq; exact hq) (by omega) _ _ hP hD hS _ (lv_sub hl [0, 1, 2] rfl)
        · have u2 := hw2.2 (c - 1) (by omega) (by omega)
          refine lv_aload_n hx hb dX6_lower_16 rfl (lv_at hl 0 rfl) ?_
          refine li_get (ci := 6) (v := .ref M1) (C := RX6) (T := TX6) (N := 11) (q0 := 0) (k := 5) hx hb hts hin_X6 hown hK hP rfl rfl (by decide) hf_9 rfl rfl dX6_lower_17 ?_
          refine li_const hx hb dX6_lower_20 ?_
          refine lv_iload_n hx hb dX6_lower_21 rfl (lv_at hl 1 rfl) ?_
          refine li_add hx hb dX6_lower_22 ?_
          refine li_const hx hb dX6_lower_23 ?_
          refine li_sub hx hb dX6_lower_24 ?_
          refine li_iald (q0 := 1) (t0 := 0) (g := (rowF w2 op tn pl en kd nb)) hx hb hK hP rfl rfl (by omega) (by omega) (ib_i (by omega) (by omega)) dX6_lower_25 ?_
          refine li_top (b := w2.2.2.2 (c - 1)) (rd_u (c := c - 1) (by omega) (by omega) (by omega)) ?_
          refine lv_aload_n hx hb dX6_lower_26 rfl (lv_at hl 0 rfl) ?_
          refine li_get (ci := 6) (v := .int (iI L)) (C := RX6) (T := TX6) (N := 11) (q0 := 0) (k := 1) hx hb hts hin_X6 hown hK hP rfl rfl (by decide) hf_30 rfl rfl dX6_lower_27 ?_
          refine li_icmp_ne (tgt := 41) hx hb dX6_lower_30 (by decide) (ib_i (by omega) (by omega)) (ib_i (by omega) (by omega)) (fun c_30 => ?_) (fun c_30 => ?_)
          · have hw3 : WI n L a w2 := by first | exact hw2 | exact loM_WI hn hL ha _ _ _ (by omega) hw2
            have u3 := hw3.2 c hc.1 hc.2
            refine lv_aload_n hx hb dX6_lower_41 rfl (lv_at hl 0 rfl) ?_
            refine lv_iload_n hx hb dX6_lower_42 rfl (lv_at hl 1 rfl) ?_
            refine lv_aload_n hx hb dX6_lower_43 rfl (lv_at hl 0 rfl) ?_
            refine li_get (ci := 6) (v := .ref M1) (C := RX6) (T := TX6) (N := 11) (q0 := 0) (k := 5) hx hb hts hin_X6 hown hK hP rfl rfl (by decide) hf_9 rfl rfl dX6_lower_44 ?_
            refine li_const hx hb dX6_lower_47 ?_
            refine lv_iload_n hx hb dX6_lower_48 rfl (lv_at hl 1 rfl) ?_
            refine li_add hx hb dX6_lower_49 ?_
            refine li_iald (q0 := 1) (t0 := 0) (g := (rowF w2 op tn pl en kd nb)) hx hb hK hP rfl rfl (by omega) (by omega) (ib_i (by omega) (by omega)) dX6_lower_50 ?_
            refine li_top (b := w2.2.2.2 c) (rd_u (c := c) (by omega) (by omega) (by omega)) ?_
            refine lv_iload_n hx hb dX6_lower_51 rfl (lv_at hl 2 rfl) ?_
            refine li_sub hx hb dX6_lower_52 ?_
            refine cl_v0 (isC := [0, 1, 2, 3, 4]) (isR := []) (isN := [0, 1, 2, 3, 4]) (wr := []) (wn := cMd cI n L a rn sp cnt th (rowF (rnW n L a c ((w2.2.2.2 c) - t).toNat w2) op tn pl en kd nb) as ln dr M0 M1 M2 M3 M4) (As := [.int (iI c), .int (iI ((w2.2.2.2 c) - t))]) (rest := []) (ci := 6) (q0 := 0) ⟨hx, hb, hml, hown, hts⟩ (c_X6_runFor n L a rn sp cnt th w2 op tn pl en kd nb as ln dr M0 M1 M2 M3 M4 c ((w2.2.2.2 c) - t) (by first | assumption | omega) (by first | assumption | omega) (by first | assumption | omega) (by exact hw3) (by first | assumption | omega) (by first | omega | (have u9 := loM_keep (n := n) (L := L) (a := a) (c - 1) c 0 w2 (by omega) (by omega); omega))) (cwV 2 hts gX6_lower_X6_runFor rfl rfl rfl (by decide +kernel) ⟨by dsimp only [rK]; omega, by dsimp only [rK]; omega⟩) hK hNW hP hD hS hA rfl rfl rfl rfl (by decide) rfl rfl rfl rfl rfl rfl hl.1 rfl (Nat.le_of_ble_eq_true rfl) dX6_lower_53 ⟨Nat.zero_le _, Nat.zero_le _⟩ (fun H locs hP hD hS => ?_)
            refine lv_goto (tgt := 0) hx hb dX6_lower_56 (by decide) ?_
            have he9 : (100000 - r).toNat = (100000 - (r + 1)).toNat + 1 := by omega
            have hst := lo_step hL hc ht.1 hw2 (by omega) hlo
            have hle : loS n L a (loM n L a (c - 1).toNat 0) c t w2 = (rnW n L a c ((w2.2.2.2 c) - t).toNat w2) := by
              first | exact loS_a (by omega) | exact loS_b (by omega)
            rw [hle] at hst
            exact ih (r + 1) (rnW n L a c ((w2.2.2.2 c) - t).toNat w2) (by omega) (by omega) (by exact rnW_WI hn hL ha (by omega) _ hw3) (by rw [he9, itW_t _ (by omega), hle] at hq; exact hq) (by omega) _ _ hP hD hS _ (lv_sub hl [0, 1, 2] rfl)
          · refine lv_aload_n hx hb dX6_lower_33 rfl (lv_at hl 0 rfl) ?_
            refine lv_iload_n hx hb dX6_lower_34 rfl (lv_at hl 1 rfl) ?_
            refine li_const hx hb dX6_lower_35 ?_
            refine li_sub hx hb dX6_lower_36 ?_
            refine li_const hx hb dX6_lower_37 ?_
            refine cl_v0 (isC := [0, 1, 2, 3, 4]) (isR := []) (isN := [0, 1, 2, 3, 4]) (wr := []) (wn := cMd cI n L a rn sp cnt th (rowF (loM n L a (c - 1).toNat 0 w2) op tn pl en kd nb) as ln dr M0 M1 M2 M3 M4) (As := [.int (iI (c - 1)), .int (iI 0)]) (rest := []) (ci := 6) (q0 := 0) ⟨hx, hb, hml, hown, hts⟩ (ihd ((c - 1).toNat) (by omega) n L a rn sp cnt th w2 op tn pl en kd nb as ln dr M0 M1 M2 M3 M4 (c - 1) 0 (by first | assumption | omega) (by first | assumption | omega) (by first | assumption | omega) (by exact hw2) (by first | assumption | omega) (by first | assumption | omega) rfl) (cwV 2 hts gX6_lower_X6_lower rfl rfl rfl (by decide +kernel) ⟨by dsimp only [rK]; omega, by dsimp only [rK]; omega⟩) hK hNW hP hD hS hA rfl rfl rfl rfl (by decide) rfl rfl rfl rfl rfl rfl hl.1 rfl (Nat.le_of_ble_eq_true rfl) dX6_lower_38 ⟨Nat.zero_le _, Nat.zero_le _⟩ (fun H locs hP hD hS => ?_)
            have hw3 : WI n L a (loM n L a (c - 1).toNat 0 w2) := by first | exact hw2 | exact loM_WI hn hL ha _ _ _ (by omega) hw2
            have u3 := hw3.2 c hc.1 hc.2
            refine lv_aload_n hx hb dX6_lower_41 rfl (lv_at hl 0 rfl) ?_
            refine lv_iload_n hx hb dX6_lower_42 rfl (lv_at hl 1 rfl) ?_
            refine lv_aload_n hx hb dX6_lower_43 rfl (lv_at hl 0 rfl) ?_
            refine li_get (ci := 6) (v := .ref M1) (C := RX6) (T := TX6) (N := 11) (q0 := 0) (k := 5) hx hb hts hin_X6 hown hK hP rfl rfl (by decide) hf_9 rfl rfl dX6_lower_44 ?_
            refine li_const hx hb dX6_lower_47 ?_
            refine lv_iload_n hx hb dX6_lower_48 rfl (lv_at hl 1 rfl) ?_
            refine li_add hx hb dX6_lower_49 ?_
            refine li_iald (q0 := 1) (t0 := 0) (g := (rowF (loM n L a (c - 1).toNat 0 w2) op tn pl en kd nb)) hx hb hK hP rfl rfl (by omega) (by omega) (ib_i (by omega) (by omega)) dX6_lower_50 ?_
            refine li_top (b := ((loM n L a (c - 1).toNat 0 w2).2.2.2) c) (rd_u (c := c) (by omega) (by omega) (by omega)) ?_
            refine lv_iload_n hx hb dX6_lower_51 rfl (lv_at hl 2 rfl) ?_
            refine li_sub hx hb dX6_lower_52 ?_
            refine cl_v0 (isC := [0, 1, 2, 3, 4]) (isR := []) (isN := [0, 1, 2, 3, 4]) (wr := []) (wn := cMd cI n L a rn sp cnt th (rowF (rnW n L a c ((((loM n L a (c - 1).toNat 0 w2).2.2.2) c) - t).toNat (loM n L a (c - 1).toNat 0 w2)) op tn pl en kd nb) as ln dr M0 M1 M2 M3 M4) (As := [.int (iI c), .int (iI ((((loM n L a (c - 1).toNat 0 w2).2.2.2) c) - t))]) (rest := []) (ci := 6) (q0 := 0) ⟨hx, hb, hml, hown, hts⟩ (c_X6_runFor n L a rn sp cnt th (loM n L a (c - 1).toNat 0 w2) op tn pl en kd nb as ln dr M0 M1 M2 M3 M4 c ((((loM n L a (c - 1).toNat 0 w2).2.2.2) c) - t) (by first | assumption | omega) (by first | assumption | omega) (by first | assumption | omega) (by exact hw3) (by first | assumption | omega) (by first | omega | (have u9 := loM_keep (n := n) (L := L) (a := a) (c - 1) c 0 w2 (by omega) (by omega); omega))) (cwV 2 hts gX6_lower_X6_runFor rfl rfl rfl (by decide +kernel) ⟨by dsimp only [rK]; omega, by dsimp only [rK]; omega⟩) hK hNW hP hD hS hA rfl rfl rfl rfl (by decide) rfl rfl rfl rfl rfl rfl hl.1 rfl (Nat.le_of_ble_eq_true rfl) dX6_lower_53 ⟨Nat.zero_le _, Nat.zero_le _⟩ (fun H locs hP hD hS => ?_)
            refine lv_goto (tgt := 0) hx hb dX6_lower_56 (by decide) ?_
            have he9 : (100000 - r).toNat = (100000 - (r + 1)).toNat + 1 := by omega
            have hst := lo_step hL hc ht.1 hw2 (by omega) hlo
            have hle : loS n L a (loM n L a (c - 1).toNat 0) c t w2 = (rnW n L a c ((((loM n L a (c - 1).toNat 0 w2).2.2.2) c) - t).toNat (loM n L a (c - 1).toNat 0 w2)) := by
              first | exact loS_a (by omega) | exact loS_b (by omega)
            rw [hle] at hst
            exact ih (r + 1) (rnW n L a c ((((loM n L a (c - 1).toNat 0 w2).2.2.2) c) - t).toNat (loM n L a (c - 1).toNat 0 w2)) (by omega) (by omega) (by exact rnW_WI hn hL ha (by omega) _ hw3) (by rw [he9, itW_t _ (by omega), hle] at hq; exact hq) (by omega) _ _ hP hD hS _ (lv_sub hl [0, 1, 2] rfl)
  exact loop_0 (((w.2.2.2 c - t + 100) : Int) + 1).toNat 0 w (by omega) (by have u9 := hw.2 c hc.1 hc.2; omega) (by exact hw) (by rw [loM_eq n L a hc.1 t w]; rfl) (by have u9 := hw.2 c hc.1 hc.2; omega) _ _ hP hD hS _ (lv_sub hl [0, 1, 2] rfl)

set_option maxRecDepth 100000 in
set_option maxHeartbeats 4000000 in
theorem c_X6_report {l : Launch} {D : va_G} {cI cZ cJ : ClassId} (n : Int) (L : Int) (a : Int) (rn : Int) (sp : Int) (cnt : Int) (th : Int) (w : Wt) (op : Int → Int) (tn : Int → Int) (pl : Int → Int) (en : Int) (kd : Int → Int) (nb : Int → Int) (as : Int → Int) (ln : Int → Int) (dr : Int → Int) (M0 M1 M2 M3 M4 : Nat) (x : Int) (y : Int) (hen : 0 ≤ en ∧ en ≤ 7) : Dv l yX6_report wsX6_report 1 [.ref M0, .int (iI x), .int (iI y)] D (ty3 cI cZ cJ) (cMd cI n L a rn sp cnt th (rowF w op tn pl en kd nb) as ln dr M0 M1 M2 M3 M4) (cMd cI n L a rn sp cnt th (rowF w op tn pl (en + 1) (shZ kd en x) (shZ nb en y)) as ln dr M0 M1 M2 M3 M4) := by
  refine ct_v (plainFor_of_name (by decide)) rfl (Nat.le_of_ble_eq_true rfl) ?_
  intro p e s mI args below meth c_0 ls A hx hb hr hml hts hown hlocks hin hA hP hK hD hNW hS hl Q hQ
  have hown : s.vm.findClass RX6 = some mI.cls := hown
  have hl : lv_has ls 4 [(0, .ref M0), (1, .int (iI x)), (2, .int (iI y))] := hl
  have hin_X6 : ∀ w ∈ wsX60, w ∈ wsX6_report := by decide +kernel
  have hf_9 := hts (.fieldLink RX6 9 "LockStaircaseModel" "row" "[I") (by decide +kernel)
  refine lv_aload_n hx hb dX6_report_0 rfl (lv_at hl 0 rfl) ?_
  refine li_get (ci := 6) (v := .ref M1) (C := RX6) (T := TX6) (N := 11) (q0 := 0) (k := 5) hx hb hts hin_X6 hown hK hP rfl rfl (by decide) hf_9 rfl rfl dX6_report_1 ?_
  refine li_bipush hx hb dX6_report_4 (by decide) ?_
  refine li_iald (q0 := 1) (t0 := 0) (g := (rowF w op tn pl en kd nb)) hx hb hK hP rfl rfl (by omega) (by omega) (by decide) dX6_report_6 ?_
  refine li_top (b := en) (rd_e rfl) ?_
  refine lv_istore_n (lv' := [(3, .int (iI en)), (0, .ref M0), (1, .int (iI x)), (2, .int (iI y))]) hx hb dX6_report_7 rfl hl (by decide) rfl (fun ls hl => ?_)
  have loop_8 : ∀ (N : Nat) (i : Int) (kd2 : Int → Int) (nb2 : Int → Int), (0 ≤ i ∧ i ≤ en) → (kd2 = shX kd i en) → (nb2 = shX nb i en) → i < (N : Int) → ∀ (H : Heap) (locs : List Loc), va_P D vwCl (cMd cI n L a rn sp cnt th (rowF w op tn pl en kd2 nb2) as ln dr M0 M1 M2 M3 M4) H → va_D A (cMd cI n L a rn sp cnt th (rowF w op tn pl en kd2 nb2) as ln dr M0 M1 M2 M3 M4) → va_S A s.heap H locs → ∀ (ls : Array Slot), lv_has ls 4 [(3, .int (iI i)), (0, .ref M0), (1, .int (iI x)), (2, .int (iI y))] → W p l e (rK 1 0 0) s mI args below meth c_0 H locs 0 0 Q (F0 mI 8 ls []) := by
    intro N
    induction N with
    | zero =>
      intro i kd2 nb2 hi hk hn2 hN
      exact absurd hN (by omega)
    | succ N ih =>
      intro i kd2 nb2 hi hk hn2 hN H locs hP hD hS ls hl
      refine lv_iload_n hx hb dX6_report_8 rfl (lv_at hl 0 rfl) ?_
      refine li_if_le (tgt := 58) hx hb dX6_report_9 (by decide) (ib_i (by omega) (by omega)) (fun c_9 => ?_) (fun c_9 => ?_)
      · refine lv_aload_n hx hb dX6_report_58 rfl (lv_at hl 1 rfl) ?_
        refine li_get (ci := 6) (v := .ref M1) (C := RX6) (T := TX6) (N := 11) (q0 := 0) (k := 5) hx hb hts hin_X6 hown hK hP rfl rfl (by decide) hf_9 rfl rfl dX6_report_59 ?_
        refine li_bipush hx hb dX6_report_62 (by decide) ?_
        refine lv_iload_n hx hb dX6_report_64 rfl (lv_at hl 2 rfl) ?_
        refine li_iast (q0 := 1) (t0 := 0) (g := (rowF w op tn pl en kd2 nb2)) (w2 := cMd cI n L a rn sp cnt th (rowF w op tn pl en (upZ kd2 0 x) nb2) as ln dr M0 M1 M2 M3 M4) hx hb hK hP hD hS rfl rfl (by omega) (by omega) (by decide) dX6_report_65 (by rw [wr_k (c := 0) (by omega) (by omega) (by omega)] <;> rfl) (fun H locs hP hD hS => ?_)
        refine lv_aload_n hx hb dX6_report_66 rfl (lv_at hl 1 rfl) ?_
        refine li_get (ci := 6) (v := .ref M1) (C := RX6) (T := TX6) (N := 11) (q0 := 0) (k := 5) hx hb hts hin_X6 hown hK hP rfl rfl (by decide) hf_9 rfl rfl dX6_report_67 ?_
        refine li_bipush hx hb dX6_report_70 (by decide) ?_
        refine lv_iload_n hx hb dX6_report_72 rfl (lv_at hl 3 rfl) ?_
        refine li_iast (q0 := 1) (t0 := 0) (g := (rowF w op tn pl en (upZ kd2 0 x) nb2)) (w2 := cMd cI n L a rn sp cnt th (rowF w op tn pl en (upZ kd2 0 x) (upZ nb2 0 y)) as ln dr M0 M1 M2 M3 M4) hx hb hK hP hD hS rfl rfl (by omega) (by omega) (by decide) dX6_report_73 (by rw [wr_b (c := 0) (by omega) (by omega) (by omega)] <;> rfl) (fun H locs hP hD hS => ?_)
        refine lv_aload_n hx hb dX6_report_74 rfl (lv_at hl 1 rfl) ?_
        refine li_get (ci := 6) (v := .ref M1) (C := RX6) (T := TX6) (N := 11) (q0 := 0) (k := 5) hx hb hts hin_X6 hown hK hP rfl rfl (by decide) hf_9 rfl rfl dX6_report_75 ?_
        refine li_bipush hx hb dX6_report_78 (by decide) ?_
        refine lv_dup2_11 hx hb dX6_report_80 rfl rfl ?_
        refine li_iald (q0 := 1) (t0 := 0) (g := (rowF w op tn pl en (upZ kd2 0 x) (upZ nb2 0 y))) hx hb hK hP rfl rfl (by omega) (by omega) (by decide) dX6_report_81 ?_
        refine li_top (b := en) (rd_e rfl) ?_
        refine li_const hx hb dX6_report_82 ?_
        refine li_add hx hb dX6_report_83 ?_
        refine li_iast (q0 := 1) (t0 := 0) (g := (rowF w op tn pl en (upZ kd2 0 x) (upZ nb2 0 y))) (w2 := cMd cI n L a rn sp cnt th (rowF w op tn pl (en + 1) (upZ kd2 0 x) (upZ nb2 0 y)) as ln dr M0 M1 M2 M3 M4) hx hb hK hP hD hS rfl rfl (by omega) (by omega) (by decide) dX6_report_84 (by rw [wr_e rfl] <;> rfl) (fun H locs hP hD hS => ?_)
        exact li_vret () hx hb hr hlocks hK hP hD hS dX6_report_85 hQ (by rw [hk, hn2, shX_0 kd en x (by omega), shX_0 nb en y (by omega)]) trivial
      · refine lv_aload_n hx hb dX6_report_12 rfl (lv_at hl 1 rfl) ?_
        refine li_get (ci := 6) (v := .ref M1) (C := RX6) (T := TX6) (N := 11) (q0 := 0) (k := 5) hx hb hts hin_X6 hown hK hP rfl rfl (by decide) hf_9 rfl rfl dX6_report_13 ?_
        refine li_bipush hx hb dX6_report_16 (by decide) ?_
        refine lv_iload_n hx hb dX6_report_18 rfl (lv_at hl 0 rfl) ?_
        refine li_add hx hb dX6_report_19 ?_
        refine lv_aload_n hx hb dX6_report_20 rfl (lv_at hl 1 rfl) ?_
        refine li_get (ci := 6) (v := .ref M1) (C := RX6) (T := TX6) (N := 11) (q0 := 0) (k := 5) hx hb hts hin_X6 hown hK hP rfl rfl (by decide) hf_9 rfl rfl dX6_report_21 ?_
        refine li_bipush hx hb dX6_report_24 (by decide) ?_
        refine lv_iload_n hx hb dX6_report_26 rfl (lv_at hl 0 rfl) ?_
        refine li_add hx hb dX6_report_27 ?_
        refine li_const hx hb dX6_report_28 ?_
        refine li_sub hx hb dX6_report_29 ?_
        refine li_iald (q0 := 1) (t0 := 0) (g := (rowF w op tn pl en kd2 nb2)) hx hb hK hP rfl rfl (by omega) (by omega) (ib_i (by omega) (by omega)) dX6_report_30 ?_
        refine li_top (b := kd2 (i - 1)) (rd_k (c := i - 1) (by omega) (by omega) (by omega)) ?_
        refine li_iast (q0 := 1) (t0 := 0) (g := (rowF w op tn pl en kd2 nb2)) (w2 := cMd cI n L a rn sp cnt th (rowF w op tn pl en (upZ kd2 i (kd2 (i - 1))) nb2) as ln dr M0 M1 M2 M3 M4) hx hb hK hP hD hS rfl rfl (by omega) (by omega) (ib_i (by omega) (by omega)) dX6_report_31 (by rw [wr_k (c := i) (by omega) (by omega) (by omega)] <;> rfl) (fun H locs hP hD hS => ?_)
        refine lv_aload_n hx hb dX6_report_32 rfl (lv_at hl 1 rfl) ?_
        refine li_get (ci := 6) (v := .ref M1) (C := RX6) (T := TX6) (N := 11) (q0 := 0) (k := 5) hx hb hts hin_X6 hown hK hP rfl rfl (by decide) hf_9 rfl rfl dX6_report_33 ?_
        refine li_bipush hx hb dX6_report_36 (by decide) ?_
        refine lv_iload_n hx hb dX6_report_38 rfl (lv_at hl 0 rfl) ?_
        refine li_add hx hb dX6_report_39 ?_
        refine lv_aload_n hx hb dX6_report_40 rfl (lv_at hl 1 rfl) ?_
        refine li_get (ci := 6) (v := .ref M1) (C := RX6) (T := TX6) (N := 11) (q0 := 0) (k := 5) hx hb hts hin_X6 hown hK hP rfl rfl (by decide) hf_9 rfl rfl dX6_report_41 ?_
        refine li_bipush hx hb dX6_report_44 (by decide) ?_
        refine lv_iload_n hx hb dX6_report_46 rfl (lv_at hl 0 rfl) ?_
        refine li_add hx hb dX6_report_47 ?_
        refine li_const hx hb dX6_report_48 ?_
        refine li_sub hx hb dX6_report_49 ?_
        refine li_iald (q0 := 1) (t0 := 0) (g := (rowF w op tn pl en (upZ kd2 i (kd2 (i - 1))) nb2)) hx hb hK hP rfl rfl (by omega) (by omega) (ib_i (by omega) (by omega)) dX6_report_50 ?_
        refine li_top (b := nb2 (i - 1)) (rd_b (c := i - 1) (by omega) (by omega) (by omega)) ?_
        refine li_iast (q0 := 1) (t0 := 0) (g := (rowF w op tn pl en (upZ kd2 i (kd2 (i - 1))) nb2)) (w2 := cMd cI n L a rn sp cnt th (rowF w op tn pl en (upZ kd2 i (kd2 (i - 1))) (upZ nb2 i (nb2 (i - 1)))) as ln dr M0 M1 M2 M3 M4) hx hb hK hP hD hS rfl rfl (by omega) (by omega) (ib_i (by omega) (by omega)) dX6_report_51 (by rw [wr_b (c := i) (by omega) (by omega) (by omega)] <;> rfl) (fun H locs hP hD hS => ?_)
        refine li_inc (j := 0) (lv' := [(3, .int (iI (i + (-1)))), (0, .ref M0), (1, .int (iI x)), (2, .int (iI y))]) hx hb dX6_report_52 hl rfl (by decide) rfl (fun ls hl => ?_)
        refine lv_goto (tgt := 8) hx hb dX6_report_55 (by decide) ?_
        exact ih (i + (-1)) (upZ kd2 i (kd2 (i - 1))) (upZ nb2 i (nb2 (i - 1))) (by omega) (by rw [hk]; exact shX_s kd (by omega)) (by rw [hn2]; exact shX_s nb (by omega)) (by omega) _ _ hP hD hS _ (lv_sub hl [0, 1, 2, 3] rfl)
  exact loop_8 ((en : Int) + 1).toNat en kd nb (by omega) (by exact (shX_e kd en).symm) (by exact (shX_e nb en).symm) (by omega) _ _ hP hD hS _ (lv_sub hl [0, 1, 2, 3] rfl)

set_option maxRecDepth 100000 in
set_option maxHeartbeats 4000000 in
theorem c_X6_fails {l : Launch} {D : va_G} {cI cZ cJ : ClassId} (n : Int) (L : Int) (a : Int) (rn : Int) (sp : Int) (cnt : Int) (th : Int) (w : Wt) (op : Int → Int) (tn : Int → Int) (pl : Int → Int) (en : Int) (kd : Int → Int) (nb : Int → Int) (as : Int → Int) (ln : Int → Int) (dr : Int → Int) (M0 M1 M2 M3 M4 : Nat) (y : Int) (hen : 0 ≤ en ∧ en ≤ 7) : Di l yX6_fails wsX6_fails 2 [.ref M0, .int (iI y)] D (ty3 cI cZ cJ) (cMd cI n L a rn sp cnt th (rowF w op tn pl en kd nb) as ln dr M0 M1 M2 M3 M4) (0) (cMd cI n L a rn sp cnt th (rowF w op tn pl (en + 1) (shZ kd en y) (shZ nb en (-1))) as ln dr M0 M1 M2 M3 M4) := by
  refine ct_i (plainFor_of_name (by decide)) rfl (Nat.le_of_ble_eq_true rfl) ?_
  intro p e s mI args below meth c_0 ls A hx hb hr hml hts hown hlocks hin hA hP hK hD hNW hS hl Q hQ
  have hown : s.vm.findClass RX6 = some mI.cls := hown
  have hl : lv_has ls 2 [(0, .ref M0), (1, .int (iI y))] := hl
  refine lv_aload_n hx hb dX6_fails_0 rfl (lv_at hl 0 rfl) ?_
  refine lv_iload_n hx hb dX6_fails_1 rfl (lv_at hl 1 rfl) ?_
  refine li_const hx hb dX6_fails_2 ?_
  refine cl_v0 (isC := [0, 1, 2, 3, 4]) (isR := []) (isN := [0, 1, 2, 3, 4]) (wr := []) (wn := cMd cI n L a rn sp cnt th (rowF w op tn pl (en + 1) (shZ kd en y) (shZ nb en (-1))) as ln dr M0 M1 M2 M3 M4) (As := [.int (iI y), .int (iI (-1))]) (rest := []) (ci := 6) (q0 := 0) ⟨hx, hb, hml, hown, hts⟩ (c_X6_report n L a rn sp cnt th w op tn pl en kd nb as ln dr M0 M1 M2 M3 M4 y (-1) (by first | assumption | omega)) (cwV 2 hts gX6_fails_X6_report rfl rfl rfl (by decide +kernel) ⟨Nat.le_of_ble_eq_true rfl, Nat.le_of_ble_eq_true rfl⟩) hK hNW hP hD hS hA rfl rfl rfl rfl (by decide) rfl rfl rfl rfl rfl rfl hl.1 rfl (Nat.le_of_ble_eq_true rfl) dX6_fails_3 ⟨Nat.zero_le _, Nat.zero_le _⟩ (fun H locs hP hD hS => ?_)
  refine li_const hx hb dX6_fails_6 ?_
  exact li_zret () hx hb hr hlocks hK hP hD hS (by decide) dX6_fails_7 hQ rfl (congrArg iI (rfl))

set_option maxRecDepth 100000 in
set_option maxHeartbeats 4000000 in
theorem c_X6_failsAt {l : Launch} {D : va_G} {cI cZ cJ : ClassId} (n : Int) (L : Int) (a : Int) (rn : Int) (sp : Int) (cnt : Int) (th : Int) (w : Wt) (op : Int → Int) (tn : Int → Int) (pl : Int → Int) (en : Int) (kd : Int → Int) (nb : Int → Int) (as : Int → Int) (ln : Int → Int) (dr : Int → Int) (M0 M1 M2 M3 M4 : Nat) (c : Int) (hen : 0 ≤ en ∧ en ≤ 7) : Di l yX6_failsAt wsX6_failsAt 2 [.ref M0, .int (iI c)] D (ty3 cI cZ cJ) (cMd cI n L a rn sp cnt th (rowF w op tn pl en kd nb) as ln dr M0 M1 M2 M3 M4) (0) (cMd cI n L a rn sp cnt th (rowF w op tn pl (en + 1) (shZ kd en 7) (shZ nb en c)) as ln dr M0 M1 M2 M3 M4) := by
  refine ct_i (plainFor_of_name (by decide)) rfl (Nat.le_of_ble_eq_true rfl) ?_
  intro p e s mI args below meth c_0 ls A hx hb hr hml hts hown hlocks hin hA hP hK hD hNW hS hl Q hQ
  have hown : s.vm.findClass RX6 = some mI.cls := hown
  have hl : lv_has ls 2 [(0, .ref M0), (1, .int (iI c))] := hl
  refine lv_aload_n hx hb dX6_failsAt_0 rfl (lv_at hl 0 rfl) ?_
  refine li_bipush hx hb dX6_failsAt_1 (by decide) ?_
  refine lv_iload_n hx hb dX6_failsAt_3 rfl (lv_at hl 1 rfl) ?_
  refine cl_v0 (isC := [0, 1, 2, 3, 4]) (isR := []) (isN := [0, 1, 2, 3, 4]) (wr := []) (wn := cMd cI n L a rn sp cnt th (rowF w op tn pl (en + 1) (shZ kd en 7) (shZ nb en c)) as ln dr M0 M1 M2 M3 M4) (As := [.int (iI 7), .int (iI c)]) (rest := []) (ci := 6) (q0 := 0) ⟨hx, hb, hml, hown, hts⟩ (c_X6_report n L a rn sp cnt th w op tn pl en kd nb as ln dr M0 M1 M2 M3 M4 7 c (by first | assumption | omega)) (cwV 2 hts gX6_failsAt_X6_report rfl rfl rfl (by decide +kernel) ⟨Nat.le_of_ble_eq_true rfl, Nat.le_of_ble_eq_true rfl⟩) hK hNW hP hD hS hA rfl rfl rfl rfl (by decide) rfl rfl rfl rfl rfl rfl hl.1 rfl (Nat.le_of_ble_eq_true rfl) dX6_failsAt_4 ⟨Nat.zero_le _, Nat.zero_le _⟩ (fun H locs hP hD hS => ?_)
  refine li_const hx hb dX6_failsAt_7 ?_
  exact li_zret () hx hb hr hlocks hK hP hD hS (by decide) dX6_failsAt_8 hQ rfl (congrArg iI (rfl))
