set_option maxRecDepth 100000 in
set_option maxHeartbeats 4000000 in
theorem cr_X6_raise {l : Launch} {D : va_G} {cI cZ cJ : ClassId} : ∀ (d : Nat) (n : Int) (L : Int) (a : Int) (rn : Int) (sp : Int) (cnt : Int) (th : Int) (w : Wt) (op : Int → Int) (tn : Int → Int) (pl : Int → Int) (en : Int) (kd : Int → Int) (nb : Int → Int) (as : Int → Int) (ln : Int → Int) (dr : Int → Int) (M0 M1 M2 M3 M4 : Nat) (c : Int) (t : Int) (hn : 1 ≤ n ∧ n ≤ 6) (hL : 5 ≤ L ∧ L ≤ 40) (ha : 1 ≤ a ∧ a ≤ 50) (hw : WI n L a w) (hc : 0 ≤ c ∧ c < n) (ht : 0 ≤ t ∧ t ≤ L) (hen : 0 ≤ en ∧ en + (n - c) + 1 ≤ 8) (hd : (n - 1 - c).toNat = d), Di l yX6_raise wsX6_raise (8 + d) [.ref M0, .int (iI c), .int (iI t)] D (ty3 cI cZ cJ) (cMd cI n L a rn sp cnt th (rowF w op tn pl en kd nb) as ln dr M0 M1 M2 M3 M4) (bz ((raM n L a d c t w).1 = true)) (cMd cI n L a rn sp cnt th (rowF ((raM n L a d c t w).2) op tn pl (if (raM n L a d c t w).1 = true then en else en + ((d : Nat) : Int) + 2) (if (raM n L a d c t w).1 = true then kd else fkd d en kd) (if (raM n L a d c t w).1 = true then nb else fnb d en c nb)) as ln dr M0 M1 M2 M3 M4) := by
  intro d
  induction d using Nat.strongRecOn with
  | ind d ihd =>
  intro n L a rn sp cnt th w op tn pl en kd nb as ln dr M0 M1 M2 M3 M4 c t hn hL ha hw hc ht hen hd
  refine ct_i (plainFor_of_name (by decide)) rfl (Nat.le_of_ble_eq_true rfl) ?_
  intro p e s mI args below meth c_0 ls A hx hb hr hml hts hown hlocks hin hA hP hK hD hNW hS hl Q hQ
  have hown : s.vm.findClass RX6 = some mI.cls := hown
  have hl : lv_has ls 5 [(0, .ref M0), (1, .int (iI c)), (2, .int (iI t))] := hl
  have hin_X6 : ∀ w ∈ wsX60, w ∈ wsX6_raise := by decide +kernel
  have hf_26 := hts (.fieldLink RX6 26 "LockStaircaseModel" "chambers" "I") (by decide +kernel)
  have hf_9 := hts (.fieldLink RX6 9 "LockStaircaseModel" "row" "[I") (by decide +kernel)
  have loop_0 : ∀ (N : Nat) (w2 : Wt), (WI n L a w2) → (w2 = w ∨ (t ≤ w2.2.2.2 c ∧ raM n L a d c t w = (true, w2))) → t - w2.2.2.2 c + 100 < (N : Int) → ∀ (H : Heap) (locs : List Loc), va_P D vwCl (cMd cI n L a rn sp cnt th (rowF w2 op tn pl en kd nb) as ln dr M0 M1 M2 M3 M4) H → va_D A (cMd cI n L a rn sp cnt th (rowF w2 op tn pl en kd nb) as ln dr M0 M1 M2 M3 M4) → va_S A s.heap H locs → ∀ (ls : Array Slot), lv_has ls 5 [(0, .ref M0), (1, .int (iI c)), (2, .int (iI t))] → W p l e (rK (8 + d) 0 0) s mI args below meth c_0 H locs 0 0 Q (F0 mI 0 ls []) := by
    intro N
    induction N with
    | zero =>
      intro w2 hw2 hq hN
      exact absurd hN (by have u9 := hw2.2 c hc.1 hc.2; omega)
    | succ N ih =>
      intro w2 hw2 hq hN H locs hP hD hS ls hl
      have u1 := hw2.2 c hc.1 hc.2
      refine lv_aload_n hx hb dX6_raise_0 rfl (lv_at hl 0 rfl) ?_
      refine li_get (ci := 6) (v := .ref M1) (C := RX6) (T := TX6) (N := 11) (q0 := 0) (k := 5) hx hb hts hin_X6 hown hK hP rfl rfl (by decide) hf_9 rfl rfl dX6_raise_1 ?_
      refine li_const hx hb dX6_raise_4 ?_
      refine lv_iload_n hx hb dX6_raise_5 rfl (lv_at hl 1 rfl) ?_
      refine li_add hx hb dX6_raise_6 ?_
      refine li_iald (q0 := 1) (t0 := 0) (g := (rowF w2 op tn pl en kd nb)) hx hb hK hP rfl rfl (by omega) (by omega) (ib_i (by omega) (by omega)) dX6_raise_7 ?_
      refine li_top (b := w2.2.2.2 c) (rd_u (c := c) (by omega) (by omega) (by omega)) ?_
      refine lv_iload_n hx hb dX6_raise_8 rfl (lv_at hl 2 rfl) ?_
      refine li_icmp_ge (tgt := 110) hx hb dX6_raise_9 (by decide) (ib_i (by omega) (by omega)) (ib_i (by omega) (by omega)) (fun c_9 => ?_) (fun c_9 => ?_)
      · refine li_const hx hb dX6_raise_110 ?_
        exact li_zret () hx hb hr hlocks hK hP hD hS (by decide) dX6_raise_111 hQ (by rcases hq with h9 | h9 <;> first | (rw [← h9, raM_t d (by omega)]; rfl) | (rw [h9.2]; rfl)) (congrArg iI (by rcases hq with h9 | h9 <;> first | (rw [← h9, raM_t d (by omega)]; rfl) | (rw [h9.2]; rfl)))
      · have h9 : w2 = w := by
          rcases hq with h | h
          · exact h
          · exfalso; omega
        refine lv_iload_n hx hb dX6_raise_12 rfl (lv_at hl 2 rfl) ?_
        refine lv_aload_n hx hb dX6_raise_13 rfl (lv_at hl 0 rfl) ?_
        refine li_get (ci := 6) (v := .ref M1) (C := RX6) (T := TX6) (N := 11) (q0 := 0) (k := 5) hx hb hts hin_X6 hown hK hP rfl rfl (by decide) hf_9 rfl rfl dX6_raise_14 ?_
        refine li_const hx hb dX6_raise_17 ?_
        refine lv_iload_n hx hb dX6_raise_18 rfl (lv_at hl 1 rfl) ?_
        refine li_add hx hb dX6_raise_19 ?_
        refine li_iald (q0 := 1) (t0 := 0) (g := (rowF w2 op tn pl en kd nb)) hx hb hK hP rfl rfl (by omega) (by omega) (ib_i (by omega) (by omega)) dX6_raise_20 ?_
        refine li_top (b := w2.2.2.2 c) (rd_u (c := c) (by omega) (by omega) (by omega)) ?_
        refine li_sub hx hb dX6_raise_21 ?_
        refine lv_istore_n (lv' := [(3, .int (iI (t - (w2.2.2.2 c)))), (0, .ref M0), (1, .int (iI c)), (2, .int (iI t))]) hx hb dX6_raise_22 rfl hl (by decide) rfl (fun ls hl => ?_)
        refine lv_iload_n hx hb dX6_raise_23 rfl (lv_at hl 2 rfl) ?_
        refine lv_aload_n hx hb dX6_raise_24 rfl (lv_at hl 1 rfl) ?_
        refine li_get (ci := 6) (v := .int (iI n)) (C := RX6) (T := TX6) (N := 11) (q0 := 0) (k := 0) hx hb hts hin_X6 hown hK hP rfl rfl (by decide) hf_26 rfl rfl dX6_raise_25 ?_
        refine li_const hx hb dX6_raise_28 ?_
        refine li_sub hx hb dX6_raise_29 ?_
        refine li_icmp_ge (tgt := 64) hx hb dX6_raise_30 (by decide) (ib_i (by omega) (by omega)) (ib_i (by omega) (by omega)) (fun c_30 => ?_) (fun c_30 => ?_)
        · have hw3 : WI n L a w2 := by first | exact hw2 | exact raM_WI hn hL ha _ _ _ _ (by omega) (by omega) hw2
          have hkc : w2.2.2.2 c = w2.2.2.2 c := by first | rfl | exact raM_keep _ _ _ _ _ _ _ _ (by omega)
          have hfl : c + 1 < n → t - w2.2.2.2 c ≤ w2.2.2.2 (c + 1) := by
            intro h8
            first | omega | exact raM_ok c_55
          have hw4 := rnW_WI hn hL ha (show 0 ≤ c + 1 ∧ c + 1 ≤ n by omega) (t - w2.2.2.2 c).toNat hw3
          have u4 := hw4.2 c hc.1 hc.2
          refine lv_aload_n hx hb dX6_raise_64 rfl (lv_at hl 1 rfl) ?_
          refine lv_iload_n hx hb dX6_raise_65 rfl (lv_at hl 2 rfl) ?_
          refine li_const hx hb dX6_raise_66 ?_
          refine li_add hx hb dX6_raise_67 ?_
          refine lv_iload_n hx hb dX6_raise_68 rfl (lv_at hl 0 rfl) ?_
          refine cl_v0 (isC := [0, 1, 2, 3, 4]) (isR := []) (isN := [0, 1, 2, 3, 4]) (wr := []) (wn := cMd cI n L a rn sp cnt th (rowF (rnW n L a (c + 1) (t - (w2.2.2.2 c)).toNat w2) op tn pl en kd nb) as ln dr M0 M1 M2 M3 M4) (As := [.int (iI (c + 1)), .int (iI (t - (w2.2.2.2 c)))]) (rest := []) (ci := 6) (q0 := 0) ⟨hx, hb, hml, hown, hts⟩ (c_X6_runFor n L a rn sp cnt th w2 op tn pl en kd nb as ln dr M0 M1 M2 M3 M4 (c + 1) (t - (w2.2.2.2 c)) (by first | assumption | omega) (by first | assumption | omega) (by first | assumption | omega) (by exact hw3) (by first | assumption | omega) (by first | assumption | omega)) (cwV 2 hts gX6_raise_X6_runFor rfl rfl rfl (by decide +kernel) ⟨by dsimp only [rK]; omega, by dsimp only [rK]; omega⟩) hK hNW hP hD hS hA rfl rfl rfl rfl (by decide) rfl rfl rfl rfl rfl rfl hl.1 rfl (Nat.le_of_ble_eq_true rfl) dX6_raise_69 ⟨Nat.zero_le _, Nat.zero_le _⟩ (fun H locs hP hD hS => ?_)
          refine lv_iload_n hx hb dX6_raise_72 rfl (lv_at hl 2 rfl) ?_
          refine lv_aload_n hx hb dX6_raise_73 rfl (lv_at hl 1 rfl) ?_
          refine li_get (ci := 6) (v := .int (iI n)) (C := RX6) (T := TX6) (N := 11) (q0 := 0) (k := 0) hx hb hts hin_X6 hown hK hP rfl rfl (by decide) hf_26 rfl rfl dX6_raise_74 ?_
          refine li_const hx hb dX6_raise_77 ?_
          refine li_sub hx hb dX6_raise_78 ?_
          refine li_icmp_ne (tgt := 107) hx hb dX6_raise_79 (by decide) (ib_i (by omega) (by omega)) (ib_i (by omega) (by omega)) (fun c_79 => ?_) (fun c_79 => ?_)
          · refine lv_goto (tgt := 0) hx hb dX6_raise_107 (by decide) ?_
            have htu : t ≤ (rnW n L a (c + 1) (t - (w2.2.2.2 c)).toNat w2).2.2.2 c := by
              first
                | omega
                | (have f9 := ra_fill (t := t) (c := c) ⟨hc.1, (by omega)⟩ ht.2 hw3 (by omega) (by omega)
                   rw [hkc] at f9; omega)
            exact ih (rnW n L a (c + 1) (t - (w2.2.2.2 c)).toNat w2) (by exact hw4) (by right; refine ⟨htu, ?_⟩; rw [← h9]; first | (rw [raM_z (by omega) (by omega), decide_eq_true htu]; done) | (rw [raM_k (by omega) (by omega) c_55, decide_eq_true htu]; done) | (rw [raM_k (by omega) (by omega) (by rw [raM_t (d - 1) (by omega)]), raM_t (d - 1) (show t - w2.2.2.2 c ≤ w2.2.2.2 (c + 1) by omega), decide_eq_true htu]; done)) (by omega) _ _ hP hD hS _ (lv_sub hl [1, 2, 3] rfl)
          · refine lv_aload_n hx hb dX6_raise_82 rfl (lv_at hl 1 rfl) ?_
            refine li_get (ci := 6) (v := .ref M1) (C := RX6) (T := TX6) (N := 11) (q0 := 0) (k := 5) hx hb hts hin_X6 hown hK hP rfl rfl (by decide) hf_9 rfl rfl dX6_raise_83 ?_
            refine li_const hx hb dX6_raise_86 ?_
            refine lv_iload_n hx hb dX6_raise_87 rfl (lv_at hl 2 rfl) ?_
            refine li_add hx hb dX6_raise_88 ?_
            refine li_iald (q0 := 1) (t0 := 0) (g := (rowF (rnW n L a (c + 1) (t - (w2.2.2.2 c)).toNat w2) op tn pl en kd nb)) hx hb hK hP rfl rfl (by omega) (by omega) (ib_i (by omega) (by omega)) dX6_raise_89 ?_
            refine li_top (b := ((rnW n L a (c + 1) (t - (w2.2.2.2 c)).toNat w2).2.2.2) c) (rd_u (c := c) (by omega) (by omega) (by omega)) ?_
            refine lv_iload_n hx hb dX6_raise_90 rfl (lv_at hl 3 rfl) ?_
            refine li_icmp_ge (tgt := 107) hx hb dX6_raise_91 (by decide) (ib_i (by omega) (by omega)) (ib_i (by omega) (by omega)) (fun c_91 => ?_) (fun c_91 => ?_)
            · refine lv_goto (tgt := 0) hx hb dX6_raise_107 (by decide) ?_
              have htu : t ≤ (rnW n L a (c + 1) (t - (w2.2.2.2 c)).toNat w2).2.2.2 c := by
                first
                  | omega
                  | (have f9 := ra_fill (t := t) (c := c) ⟨hc.1, (by omega)⟩ ht.2 hw3 (by omega) (by omega)
                     rw [hkc] at f9; omega)
              exact ih (rnW n L a (c + 1) (t - (w2.2.2.2 c)).toNat w2) (by exact hw4) (by right; refine ⟨htu, ?_⟩; rw [← h9]; first | (rw [raM_z (by omega) (by omega), decide_eq_true htu]; done) | (rw [raM_k (by omega) (by omega) c_55, decide_eq_true htu]; done) | (rw [raM_k (by omega) (by omega) (by rw [raM_t (d - 1) (by omega)]), raM_t (d - 1) (show t - w2.2.2.2 c ≤ w2.2.2.2 (c + 1) by omega), decide_eq_true htu]; done)) (by omega) _ _ hP hD hS _ (lv_sub hl [1, 2, 3] rfl)
            · refine lv_aload_n hx hb dX6_raise_94 rfl (lv_at hl 1 rfl) ?_
              refine li_const hx hb dX6_raise_95 ?_
              refine cl_i0 (isC := [0, 1, 2, 3, 4]) (isR := []) (isN := [0, 1, 2, 3, 4]) (wr := []) (wn := cMd cI n L a rn sp cnt th (rowF (rnW n L a (c + 1) (t - (w2.2.2.2 c)).toNat w2) op tn pl (en + 1) (shZ kd en 5) (shZ nb en (-1))) as ln dr M0 M1 M2 M3 M4) (As := [.int (iI 5)]) (rest := []) (r := 0) (ci := 6) (q0 := 0) ⟨hx, hb, hml, hown, hts⟩ (c_X6_fails n L a rn sp cnt th (rnW n L a (c + 1) (t - (w2.2.2.2 c)).toNat w2) op tn pl en kd nb as ln dr M0 M1 M2 M3 M4 5 (by first | assumption | omega)) (cwV 1 hts gX6_raise_X6_fails rfl rfl rfl (by decide +kernel) ⟨by dsimp only [rK]; omega, by dsimp only [rK]; omega⟩) hK hNW hP hD hS hA rfl rfl rfl rfl (by decide) rfl rfl rfl rfl rfl rfl hl.1 rfl (Nat.le_of_ble_eq_true rfl) dX6_raise_96 ⟨Nat.zero_le _, Nat.zero_le _⟩ (fun H locs hP hD hS => ?_)
              refine lv_istore (lv' := [(4, .int (iI 0)), (3, .int (iI (t - (w2.2.2.2 c)))), (0, .ref M0), (1, .int (iI c)), (2, .int (iI t))]) hx hb dX6_raise_99 hl (by decide) rfl (fun ls hl => ?_)
              refine lv_aload_n hx hb dX6_raise_101 rfl (lv_at hl 2 rfl) ?_
              refine lv_iload_n hx hb dX6_raise_102 rfl (lv_at hl 3 rfl) ?_
              refine cl_i0 (isC := [0, 1, 2, 3, 4]) (isR := []) (isN := [0, 1, 2, 3, 4]) (wr := []) (wn := cMd cI n L a rn sp cnt th (rowF (rnW n L a (c + 1) (t - (w2.2.2.2 c)).toNat w2) op tn pl ((en + 1) + 1) (shZ (shZ kd en 5) (en + 1) 7) (shZ (shZ nb en (-1)) (en + 1) c)) as ln dr M0 M1 M2 M3 M4) (As := [.int (iI c)]) (rest := []) (r := 0) (ci := 6) (q0 := 0) ⟨hx, hb, hml, hown, hts⟩ (c_X6_failsAt n L a rn sp cnt th (rnW n L a (c + 1) (t - (w2.2.2.2 c)).toNat w2) op tn pl (en + 1) (shZ kd en 5) (shZ nb en (-1)) as ln dr M0 M1 M2 M3 M4 c (by first | assumption | omega)) (cwV 1 hts gX6_raise_X6_failsAt rfl rfl rfl (by decide +kernel) ⟨by dsimp only [rK]; omega, by dsimp only [rK]; omega⟩) hK hNW hP hD hS hA rfl rfl rfl rfl (by decide) rfl rfl rfl rfl rfl rfl hl.1 rfl (Nat.le_of_ble_eq_true rfl) dX6_raise_103 ⟨Nat.zero_le _, Nat.zero_le _⟩ (fun H locs hP hD hS => ?_)
              exact li_zret () hx hb hr hlocks hK hP hD hS (by decide) dX6_raise_106 hQ (by first | (exfalso; omega) | (rw [← h9, raM_z (by omega) (by omega), decide_eq_false (by omega), fkd_z (by omega) en kd, fnb_z (by omega) en c nb, show en + 1 + 1 = en + ((d : Nat) : Int) + 2 by omega]; try rfl)) (congrArg iI (by first | (exfalso; omega) | (rw [← h9, raM_z (by omega) (by omega), decide_eq_false (by omega)]; rfl)))
        · have u3 := hw2.2 (c + 1) (by omega) (by omega)
          refine lv_aload_n hx hb dX6_raise_33 rfl (lv_at hl 1 rfl) ?_
          refine li_get (ci := 6) (v := .ref M1) (C := RX6) (T := TX6) (N := 11) (q0 := 0) (k := 5) hx hb hts hin_X6 hown hK hP rfl rfl (by decide) hf_9 rfl rfl dX6_raise_34 ?_
          refine li_const hx hb dX6_raise_37 ?_
          refine lv_iload_n hx hb dX6_raise_38 rfl (lv_at hl 2 rfl) ?_
          refine li_add hx hb dX6_raise_39 ?_
          refine li_const hx hb dX6_raise_40 ?_
          refine li_add hx hb dX6_raise_41 ?_
          refine li_iald (q0 := 1) (t0 := 0) (g := (rowF w2 op tn pl en kd nb)) hx hb hK hP rfl rfl (by omega) (by omega) (ib_i (by omega) (by omega)) dX6_raise_42 ?_
          refine li_top (b := w2.2.2.2 (c + 1)) (rd_u (c := c + 1) (by omega) (by omega) (by omega)) ?_
          refine lv_iload_n hx hb dX6_raise_43 rfl (lv_at hl 0 rfl) ?_
          refine li_icmp_ge (tgt := 64) hx hb dX6_raise_44 (by decide) (ib_i (by omega) (by omega)) (ib_i (by omega) (by omega)) (fun c_44 => ?_) (fun c_44 => ?_)
          · have hw3 : WI n L a w2 := by first | exact hw2 | exact raM_WI hn hL ha _ _ _ _ (by omega) (by omega) hw2
            have hkc : w2.2.2.2 c = w2.2.2.2 c := by first | rfl | exact raM_keep _ _ _ _ _ _ _ _ (by omega)
            have hfl : c + 1 < n → t - w2.2.2.2 c ≤ w2.2.2.2 (c + 1) := by
              intro h8
              first | omega | exact raM_ok c_55
            have hw4 := rnW_WI hn hL ha (show 0 ≤ c + 1 ∧ c + 1 ≤ n by omega) (t - w2.2.2.2 c).toNat hw3
            have u4 := hw4.2 c hc.1 hc.2
            refine lv_aload_n hx hb dX6_raise_64 rfl (lv_at hl 1 rfl) ?_
            refine lv_iload_n hx hb dX6_raise_65 rfl (lv_at hl 2 rfl) ?_
            refine li_const hx hb dX6_raise_66 ?_
            refine li_add hx hb dX6_raise_67 ?_
            refine lv_iload_n hx hb dX6_raise_68 rfl (lv_at hl 0 rfl) ?_
            refine cl_v0 (isC := [0, 1, 2, 3, 4]) (isR := []) (isN := [0, 1, 2, 3, 4]) (wr := []) (wn := cMd cI n L a rn sp cnt th (rowF (rnW n L a (c + 1) (t - (w2.2.2.2 c)).toNat w2) op tn pl en kd nb) as ln dr M0 M1 M2 M3 M4) (As := [.int (iI (c + 1)), .int (iI (t - (w2.2.2.2 c)))]) (rest := []) (ci := 6) (q0 := 0) ⟨hx, hb, hml, hown, hts⟩ (c_X6_runFor n L a rn sp cnt th w2 op tn pl en kd nb as ln dr M0 M1 M2 M3 M4 (c + 1) (t - (w2.2.2.2 c)) (by first | assumption | omega) (by first | assumption | omega) (by first | assumption | omega) (by exact hw3) (by first | assumption | omega) (by first | assumption | omega)) (cwV 2 hts gX6_raise_X6_runFor rfl rfl rfl (by decide +kernel) ⟨by dsimp only [rK]; omega, by dsimp only [rK]; omega⟩) hK hNW hP hD hS hA rfl rfl rfl rfl (by decide) rfl rfl rfl rfl rfl rfl hl.1 rfl (Nat.le_of_ble_eq_true rfl) dX6_raise_69 ⟨Nat.zero_le _, Nat.zero_le _⟩ (fun H locs hP hD hS => ?_)
            refine lv_iload_n hx hb dX6_raise_72 rfl (lv_at hl 2 rfl) ?_
            refine lv_aload_n hx hb dX6_raise_73 rfl (lv_at hl 1 rfl) ?_
            refine li_get (ci := 6) (v := .int (iI n)) (C := RX6) (T := TX6) (N := 11) (q0 := 0) (k := 0) hx hb hts hin_X6 hown hK hP rfl rfl (by decide) hf_26 rfl rfl dX6_raise_74 ?_
            refine li_const hx hb dX6_raise_77 ?_
            refine li_sub hx hb dX6_raise_78 ?_
            refine li_icmp_ne (tgt := 107) hx hb dX6_raise_79 (by decide) (ib_i (by omega) (by omega)) (ib_i (by omega) (by omega)) (fun c_79 => ?_) (fun c_79 => ?_)
            · refine lv_goto (tgt := 0) hx hb dX6_raise_107 (by decide) ?_
              have htu : t ≤ (rnW n L a (c + 1) (t - (w2.2.2.2 c)).toNat w2).2.2.2 c := by
                first
                  | omega
                  | (have f9 := ra_fill (t := t) (c := c) ⟨hc.1, (by omega)⟩ ht.2 hw3 (by omega) (by omega)
                     rw [hkc] at f9; omega)
              exact ih (rnW n L a (c + 1) (t - (w2.2.2.2 c)).toNat w2) (by exact hw4) (by right; refine ⟨htu, ?_⟩; rw [← h9]; first | (rw [raM_z (by omega) (by omega), decide_eq_true htu]; done) | (rw [raM_k (by omega) (by omega) c_55, decide_eq_true htu]; done) | (rw [raM_k (by omega) (by omega) (by rw [raM_t (d - 1) (by omega)]), raM_t (d - 1) (show t - w2.2.2.2 c ≤ w2.2.2.2 (c + 1) by omega), decide_eq_true htu]; done)) (by omega) _ _ hP hD hS _ (lv_sub hl [1, 2, 3] rfl)
            · refine lv_aload_n hx hb dX6_raise_82 rfl (lv_at hl 1 rfl) ?_
              refine li_get (ci := 6) (v := .ref M1) (C := RX6) (T := TX6) (N := 11) (q0 := 0) (k := 5) hx hb hts hin_X6 hown hK hP rfl rfl (by decide) hf_9 rfl rfl dX6_raise_83 ?_
              refine li_const hx hb dX6_raise_86 ?_
              refine lv_iload_n hx hb dX6_raise_87 rfl (lv_at hl 2 rfl) ?_
              refine li_add hx hb dX6_raise_88 ?_
              refine li_iald (q0 := 1) (t0 := 0) (g := (rowF (rnW n L a (c + 1) (t - (w2.2.2.2 c)).toNat w2) op tn pl en kd nb)) hx hb hK hP rfl rfl (by omega) (by omega) (ib_i (by omega) (by omega)) dX6_raise_89 ?_
              refine li_top (b := ((rnW n L a (c + 1) (t - (w2.2.2.2 c)).toNat w2).2.2.2) c) (rd_u (c := c) (by omega) (by omega) (by omega)) ?_
              refine lv_iload_n hx hb dX6_raise_90 rfl (lv_at hl 3 rfl) ?_
              refine li_icmp_ge (tgt := 107) hx hb dX6_raise_91 (by decide) (ib_i (by omega) (by omega)) (ib_i (by omega) (by omega)) (fun c_91 => ?_) (fun c_91 => ?_)
              · refine lv_goto (tgt := 0) hx hb dX6_raise_107 (by decide) ?_
                have htu : t ≤ (rnW n L a (c + 1) (t - (w2.2.2.2 c)).toNat w2).2.2.2 c := by
                  first
                    | omega
                    | (have f9 := ra_fill (t := t) (c := c) ⟨hc.1, (by omega)⟩ ht.2 hw3 (by omega) (by omega)
                       rw [hkc] at f9; omega)
                exact ih (rnW n L a (c + 1) (t - (w2.2.2.2 c)).toNat w2) (by exact hw4) (by right; refine ⟨htu, ?_⟩; rw [← h9]; first | (rw [raM_z (by omega) (by omega), decide_eq_true htu]; done) | (rw [raM_k (by omega) (by omega) c_55, decide_eq_true htu]; done) | (rw [raM_k (by omega) (by omega) (by rw [raM_t (d - 1) (by omega)]), raM_t (d - 1) (show t - w2.2.2.2 c ≤ w2.2.2.2 (c + 1) by omega), decide_eq_true htu]; done)) (by omega) _ _ hP hD hS _ (lv_sub hl [1, 2, 3] rfl)
              · refine lv_aload_n hx hb dX6_raise_94 rfl (lv_at hl 1 rfl) ?_
                refine li_const hx hb dX6_raise_95 ?_
                refine cl_i0 (isC := [0, 1, 2, 3, 4]) (isR := []) (isN := [0, 1, 2, 3, 4]) (wr := []) (wn := cMd cI n L a rn sp cnt th (rowF (rnW n L a (c + 1) (t - (w2.2.2.2 c)).toNat w2) op tn pl (en + 1) (shZ kd en 5) (shZ nb en (-1))) as ln dr M0 M1 M2 M3 M4) (As := [.int (iI 5)]) (rest := []) (r := 0) (ci := 6) (q0 := 0) ⟨hx, hb, hml, hown, hts⟩ (c_X6_fails n L a rn sp cnt th (rnW n L a (c + 1) (t - (w2.2.2.2 c)).toNat w2) op tn pl en kd nb as ln dr M0 M1 M2 M3 M4 5 (by first | assumption | omega)) (cwV 1 hts gX6_raise_X6_fails rfl rfl rfl (by decide +kernel) ⟨by dsimp only [rK]; omega, by dsimp only [rK]; omega⟩) hK hNW hP hD hS hA rfl rfl rfl rfl (by decide) rfl rfl rfl rfl rfl rfl hl.1 rfl (Nat.le_of_ble_eq_true rfl) dX6_raise_96 ⟨Nat.zero_le _, Nat.zero_le _⟩ (fun H locs hP hD hS => ?_)
                refine lv_istore (lv' := [(4, .int (iI 0)), (3, .int (iI (t - (w2.2.2.2 c)))), (0, .ref M0), (1, .int (iI c)), (2, .int (iI t))]) hx hb dX6_raise_99 hl (by decide) rfl (fun ls hl => ?_)
                refine lv_aload_n hx hb dX6_raise_101 rfl (lv_at hl 2 rfl) ?_
                refine lv_iload_n hx hb dX6_raise_102 rfl (lv_at hl 3 rfl) ?_
                refine cl_i0 (isC := [0, 1, 2, 3, 4]) (isR := []) (isN := [0, 1, 2, 3, 4]) (wr := []) (wn := cMd cI n L a rn sp cnt th (rowF (rnW n L a (c + 1) (t - (w2.2.2.2 c)).toNat w2) op tn pl ((en + 1) + 1) (shZ (shZ kd en 5) (en + 1) 7) (shZ (shZ nb en (-1)) (en + 1) c)) as ln dr M0 M1 M2 M3 M4) (As := [.int (iI c)]) (rest := []) (r := 0) (ci := 6) (q0 := 0) ⟨hx, hb, hml, hown, hts⟩ (c_X6_failsAt n L a rn sp cnt th (rnW n L a (c + 1) (t - (w2.2.2.2 c)).toNat w2) op tn pl (en + 1) (shZ kd en 5) (shZ nb en (-1)) as ln dr M0 M1 M2 M3 M4 c (by first | assumption | omega)) (cwV 1 hts gX6_raise_X6_failsAt rfl rfl rfl (by decide +kernel) ⟨by dsimp only [rK]; omega, by dsimp only [rK]; omega⟩) hK hNW hP hD hS hA rfl rfl rfl rfl (by decide) rfl rfl rfl rfl rfl rfl hl.1 rfl (Nat.le_of_ble_eq_true rfl) dX6_raise_103 ⟨Nat.zero_le _, Nat.zero_le _⟩ (fun H locs hP hD hS => ?_)
                exact li_zret () hx hb hr hlocks hK hP hD hS (by decide) dX6_raise_106 hQ (by first | (exfalso; omega) | (rw [← h9, raM_z (by omega) (by omega), decide_eq_false (by omega), fkd_z (by omega) en kd, fnb_z (by omega) en c nb, show en + 1 + 1 = en + ((d : Nat) : Int) + 2 by omega]; try rfl)) (congrArg iI (by first | (exfalso; omega) | (rw [← h9, raM_z (by omega) (by omega), decide_eq_false (by omega)]; rfl)))
          · refine lv_aload_n hx hb dX6_raise_47 rfl (lv_at hl 1 rfl) ?_
            refine lv_iload_n hx hb dX6_raise_48 rfl (lv_at hl 2 rfl) ?_
            refine li_const hx hb dX6_raise_49 ?_
            refine li_add hx hb dX6_raise_50 ?_
            refine lv_iload_n hx hb dX6_raise_51 rfl (lv_at hl 0 rfl) ?_
            refine cl_i0 (isC := [0, 1, 2, 3, 4]) (isR := []) (isN := [0, 1, 2, 3, 4]) (wr := []) (wn := cMd cI n L a rn sp cnt th (rowF ((raM n L a (d - 1) (c + 1) (t - (w2.2.2.2 c)) w2).2) op tn pl (if (raM n L a (d - 1) (c + 1) (t - (w2.2.2.2 c)) w2).1 = true then en else en + (((d - 1) : Nat) : Int) + 2) (if (raM n L a (d - 1) (c + 1) (t - (w2.2.2.2 c)) w2).1 = true then kd else fkd (d - 1) en kd) (if (raM n L a (d - 1) (c + 1) (t - (w2.2.2.2 c)) w2).1 = true then nb else fnb (d - 1) en (c + 1) nb)) as ln dr M0 M1 M2 M3 M4) (As := [.int (iI (c + 1)), .int (iI (t - (w2.2.2.2 c)))]) (rest := []) (r := bz ((raM n L a (d - 1) (c + 1) (t - (w2.2.2.2 c)) w2).1 = true)) (ci := 6) (q0 := 0) ⟨hx, hb, hml, hown, hts⟩ (ihd (d - 1) (by omega) n L a rn sp cnt th w2 op tn pl en kd nb as ln dr M0 M1 M2 M3 M4 (c + 1) (t - (w2.2.2.2 c)) (by first | assumption | omega) (by first | assumption | omega) (by first | assumption | omega) (by exact hw2) (by first | assumption | omega) (by first | assumption | omega) (by first | assumption | omega) (by omega)) (cwV 2 hts gX6_raise_X6_raise rfl rfl rfl (by decide +kernel) ⟨by dsimp only [rK]; omega, by dsimp only [rK]; omega⟩) hK hNW hP hD hS hA rfl rfl rfl rfl (by decide) rfl rfl rfl rfl rfl rfl hl.1 rfl (Nat.le_of_ble_eq_true rfl) dX6_raise_52 ⟨Nat.zero_le _, Nat.zero_le _⟩ (fun H locs hP hD hS => ?_)
            refine li_ifb_ne (tgt := 64) hx hb dX6_raise_55 (by decide) (fun c_55 => ?_) (fun c_55 => ?_)
            · simp only [if_pos c_55] at hP hD
              have hw3 : WI n L a ((raM n L a (d - 1) (c + 1) (t - (w2.2.2.2 c)) w2).2) := by first | exact hw2 | exact raM_WI hn hL ha _ _ _ _ (by omega) (by omega) hw2
              have hkc : ((raM n L a (d - 1) (c + 1) (t - (w2.2.2.2 c)) w2).2).2.2.2 c = w2.2.2.2 c := by first | rfl | exact raM_keep _ _ _ _ _ _ _ _ (by omega)
              have hfl : c + 1 < n → t - w2.2.2.2 c ≤ ((raM n L a (d - 1) (c + 1) (t - (w2.2.2.2 c)) w2).2).2.2.2 (c + 1) := by
                intro h8
                first | omega | exact raM_ok c_55
              have hw4 := rnW_WI hn hL ha (show 0 ≤ c + 1 ∧ c + 1 ≤ n by omega) (t - w2.2.2.2 c).toNat hw3
              have u4 := hw4.2 c hc.1 hc.2
              refine lv_aload_n hx hb dX6_raise_64 rfl (lv_at hl 1 rfl) ?_
              refine lv_iload_n hx hb dX6_raise_65 rfl (lv_at hl 2 rfl) ?_
              refine li_const hx hb dX6_raise_66 ?_
              refine li_add hx hb dX6_raise_67 ?_
              refine lv_iload_n hx hb dX6_raise_68 rfl (lv_at hl 0 rfl) ?_
              refine cl_v0 (isC := [0, 1, 2, 3, 4]) (isR := []) (isN := [0, 1, 2, 3, 4]) (wr := []) (wn := cMd cI n L a rn sp cnt th (rowF (rnW n L a (c + 1) (t - (w2.2.2.2 c)).toNat ((raM n L a (d - 1) (c + 1) (t - (w2.2.2.2 c)) w2).2)) op tn pl en kd nb) as ln dr M0 M1 M2 M3 M4) (As := [.int (iI (c + 1)), .int (iI (t - (w2.2.2.2 c)))]) (rest := []) (ci := 6) (q0 := 0) ⟨hx, hb, hml, hown, hts⟩ (c_X6_runFor n L a rn sp cnt th ((raM n L a (d - 1) (c + 1) (t - (w2.2.2.2 c)) w2).2) op tn pl en kd nb as ln dr M0 M1 M2 M3 M4 (c + 1) (t - (w2.2.2.2 c)) (by first | assumption | omega) (by first | assumption | omega) (by first | assumption | omega) (by exact hw3) (by first | assumption | omega) (by first | assumption | omega)) (cwV 2 hts gX6_raise_X6_runFor rfl rfl rfl (by decide +kernel) ⟨by dsimp only [rK]; omega, by dsimp only [rK]; omega⟩) hK hNW hP hD hS hA rfl rfl rfl rfl (by decide) rfl rfl rfl rfl rfl rfl hl.1 rfl (Nat.le_of_ble_eq_true rfl) dX6_raise_69 ⟨Nat.zero_le _, Nat.zero_le _⟩ (fun H locs hP hD hS => ?_)
              refine lv_iload_n hx hb dX6_raise_72 rfl (lv_at hl 2 rfl) ?_
              refine lv_aload_n hx hb dX6_raise_73 rfl (lv_at hl 1 rfl) ?_
              refine li_get (ci := 6) (v := .int (iI n)) (C := RX6) (T := TX6) (N := 11) (q0 := 0) (k := 0) hx hb hts hin_X6 hown hK hP rfl rfl (by decide) hf_26 rfl rfl dX6_raise_74 ?_
              refine li_const hx hb dX6_raise_77 ?_
              refine li_sub hx hb dX6_raise_78 ?_
              refine li_icmp_ne (tgt := 107) hx hb dX6_raise_79 (by decide) (ib_i (by omega) (by omega)) (ib_i (by omega) (by omega)) (fun c_79 => ?_) (fun c_79 => ?_)
              · refine lv_goto (tgt := 0) hx hb dX6_raise_107 (by decide) ?_
                have htu : t ≤ (rnW n L a (c + 1) (t - (w2.2.2.2 c)).toNat ((raM n L a (d - 1) (c + 1) (t - (w2.2.2.2 c)) w2).2)).2.2.2 c := by
                  first
                    | omega
                    | (have f9 := ra_fill (t := t) (c := c) ⟨hc.1, (by omega)⟩ ht.2 hw3 (by omega) (by omega)
                       rw [hkc] at f9; omega)
                exact ih (rnW n L a (c + 1) (t - (w2.2.2.2 c)).toNat ((raM n L a (d - 1) (c + 1) (t - (w2.2.2.2 c)) w2).2)) (by exact hw4) (by right; refine ⟨htu, ?_⟩; rw [← h9]; first | (rw [raM_z (by omega) (by omega), decide_eq_true htu]; done) | (rw [raM_k (by omega) (by omega) c_55, decide_eq_true htu]; done) | (rw [raM_k (by omega) (by omega) (by rw [raM_t (d - 1) (by omega)]), raM_t (d - 1) (show t - w2.2.2.2 c ≤ w2.2.2.2 (c + 1) by omega), decide_eq_true htu]; done)) (by omega) _ _ hP hD hS _ (lv_sub hl [1, 2, 3] rfl)
              · refine lv_aload_n hx hb dX6_raise_82 rfl (lv_at hl 1 rfl) ?_
                refine li_get (ci := 6) (v := .ref M1) (C := RX6) (T := TX6) (N := 11) (q0 := 0) (k := 5) hx hb hts hin_X6 hown hK hP rfl rfl (by decide) hf_9 rfl rfl dX6_raise_83 ?_
                refine li_const hx hb dX6_raise_86 ?_
                refine lv_iload_n hx hb dX6_raise_87 rfl (lv_at hl 2 rfl) ?_
                refine li_add hx hb dX6_raise_88 ?_
                refine li_iald (q0 := 1) (t0 := 0) (g := (rowF (rnW n L a (c + 1) (t - (w2.2.2.2 c)).toNat ((raM n L a (d - 1) (c + 1) (t - (w2.2.2.2 c)) w2).2)) op tn pl en kd nb)) hx hb hK hP rfl rfl (by omega) (by omega) (ib_i (by omega) (by omega)) dX6_raise_89 ?_
                refine li_top (b := ((rnW n L a (c + 1) (t - (w2.2.2.2 c)).toNat ((raM n L a (d - 1) (c + 1) (t - (w2.2.2.2 c)) w2).2)).2.2.2) c) (rd_u (c := c) (by omega) (by omega) (by omega)) ?_
                refine lv_iload_n hx hb dX6_raise_90 rfl (lv_at hl 3 rfl) ?_
                refine li_icmp_ge (tgt := 107) hx hb dX6_raise_91 (by decide) (ib_i (by omega) (by omega)) (ib_i (by omega) (by omega)) (fun c_91 => ?_) (fun c_91 => ?_)
                · refine lv_goto (tgt := 0) hx hb dX6_raise_107 (by decide) ?_
                  have htu : t ≤ (rnW n L a (c + 1) (t - (w2.2.2.2 c)).toNat ((raM n L a (d - 1) (c + 1) (t - (w2.2.2.2 c)) w2).2)).2.2.2 c := by
                    first
                      | omega
                      | (have f9 := ra_fill (t := t) (c := c) ⟨hc.1, (by omega)⟩ ht.2 hw3 (by omega) (by omega)
                         rw [hkc] at f9; omega)
                  exact ih (rnW n L a (c + 1) (t - (w2.2.2.2 c)).toNat ((raM n L a (d - 1) (c + 1) (t - (w2.2.2.2 c)) w2).2)) (by exact hw4) (by right; refine ⟨htu, ?_⟩; rw [← h9]; first | (rw [raM_z (by omega) (by omega), decide_eq_true htu]; done) | (rw [raM_k (by omega) (by omega) c_55, decide_eq_true htu]; done) | (rw [raM_k (by omega) (by omega) (by rw [raM_t (d - 1) (by omega)]), raM_t (d - 1) (show t - w2.2.2.2 c ≤ w2.2.2.2 (c + 1) by omega), decide_eq_true htu]; done)) (by omega) _ _ hP hD hS _ (lv_sub hl [1, 2, 3] rfl)
                · refine lv_aload_n hx hb dX6_raise_94 rfl (lv_at hl 1 rfl) ?_
                  refine li_const hx hb dX6_raise_95 ?_
                  refine cl_i0 (isC := [0, 1, 2, 3, 4]) (isR := []) (isN := [0, 1, 2, 3, 4]) (wr := []) (wn := cMd cI n L a rn sp cnt th (rowF (rnW n L a (c + 1) (t - (w2.2.2.2 c)).toNat ((raM n L a (d - 1) (c + 1) (t - (w2.2.2.2 c)) w2).2)) op tn pl (en + 1) (shZ kd en 5) (shZ nb en (-1))) as ln dr M0 M1 M2 M3 M4) (As := [.int (iI 5)]) (rest := []) (r := 0) (ci := 6) (q0 := 0) ⟨hx, hb, hml, hown, hts⟩ (c_X6_fails n L a rn sp cnt th (rnW n L a (c + 1) (t - (w2.2.2.2 c)).toNat ((raM n L a (d - 1) (c + 1) (t - (w2.2.2.2 c)) w2).2)) op tn pl en kd nb as ln dr M0 M1 M2 M3 M4 5 (by first | assumption | omega)) (cwV 1 hts gX6_raise_X6_fails rfl rfl rfl (by decide +kernel) ⟨by dsimp only [rK]; omega, by dsimp only [rK]; omega⟩) hK hNW hP hD hS hA rfl rfl rfl rfl (by decide) rfl rfl rfl rfl rfl rfl hl.1 rfl (Nat.le_of_ble_eq_true rfl) dX6_raise_96 ⟨Nat.zero_le _, Nat.zero_le _⟩ (fun H locs hP hD hS => ?_)
                  refine lv_istore (lv' := [(4, .int (iI 0)), (3, .int (iI (t - (w2.2.2.2 c)))), (0, .ref M0), (1, .int (iI c)), (2, .int (iI t))]) hx hb dX6_raise_99 hl (by decide) rfl (fun ls hl => ?_)
                  refine lv_aload_n hx hb dX6_raise_101 rfl (lv_at hl 2 rfl) ?_
                  refine lv_iload_n hx hb dX6_raise_102 rfl (lv_at hl 3 rfl) ?_
                  refine cl_i0 (isC := [0, 1, 2, 3, 4]) (isR := []) (isN := [0, 1, 2, 3, 4]) (wr := []) (wn := cMd cI n L a rn sp cnt th (rowF (rnW n L a (c + 1) (t - (w2.2.2.2 c)).toNat ((raM n L a (d - 1) (c + 1) (t - (w2.2.2.2 c)) w2).2)) op tn pl ((en + 1) + 1) (shZ (shZ kd en 5) (en + 1) 7) (shZ (shZ nb en (-1)) (en + 1) c)) as ln dr M0 M1 M2 M3 M4) (As := [.int (iI c)]) (rest := []) (r := 0) (ci := 6) (q0 := 0) ⟨hx, hb, hml, hown, hts⟩ (c_X6_failsAt n L a rn sp cnt th (rnW n L a (c + 1) (t - (w2.2.2.2 c)).toNat ((raM n L a (d - 1) (c + 1) (t - (w2.2.2.2 c)) w2).2)) op tn pl (en + 1) (shZ kd en 5) (shZ nb en (-1)) as ln dr M0 M1 M2 M3 M4 c (by first | assumption | omega)) (cwV 1 hts gX6_raise_X6_failsAt rfl rfl rfl (by decide +kernel) ⟨by dsimp only [rK]; omega, by dsimp only [rK]; omega⟩) hK hNW hP hD hS hA rfl rfl rfl rfl (by decide) rfl rfl rfl rfl rfl rfl hl.1 rfl (Nat.le_of_ble_eq_true rfl) dX6_raise_103 ⟨Nat.zero_le _, Nat.zero_le _⟩ (fun H locs hP hD hS => ?_)
                  exact li_zret () hx hb hr hlocks hK hP hD hS (by decide) dX6_raise_106 hQ (by first | (exfalso; omega) | (rw [← h9, raM_z (by omega) (by omega), decide_eq_false (by omega), fkd_z (by omega) en kd, fnb_z (by omega) en c nb, show en + 1 + 1 = en + ((d : Nat) : Int) + 2 by omega]; try rfl)) (congrArg iI (by first | (exfalso; omega) | (rw [← h9, raM_z (by omega) (by omega), decide_eq_false (by omega)]; rfl)))
            · simp only [if_neg c_55] at hP hD
              refine lv_aload_n hx hb dX6_raise_58 rfl (lv_at hl 1 rfl) ?_
              refine lv_iload_n hx hb dX6_raise_59 rfl (lv_at hl 2 rfl) ?_
              refine cl_i0 (isC := [0, 1, 2, 3, 4]) (isR := []) (isN := [0, 1, 2, 3, 4]) (wr := []) (wn := cMd cI n L a rn sp cnt th (rowF ((raM n L a (d - 1) (c + 1) (t - (w2.2.2.2 c)) w2).2) op tn pl ((en + (((d - 1) : Nat) : Int) + 2) + 1) (shZ (fkd (d - 1) en kd) (en + (((d - 1) : Nat) : Int) + 2) 7) (shZ (fnb (d - 1) en (c + 1) nb) (en + (((d - 1) : Nat) : Int) + 2) c)) as ln dr M0 M1 M2 M3 M4) (As := [.int (iI c)]) (rest := []) (r := 0) (ci := 6) (q0 := 0) ⟨hx, hb, hml, hown, hts⟩ (c_X6_failsAt n L a rn sp cnt th ((raM n L a (d - 1) (c + 1) (t - (w2.2.2.2 c)) w2).2) op tn pl (en + (((d - 1) : Nat) : Int) + 2) (fkd (d - 1) en kd) (fnb (d - 1) en (c + 1) nb) as ln dr M0 M1 M2 M3 M4 c (by first | assumption | omega)) (cwV 1 hts gX6_raise_X6_failsAt rfl rfl rfl (by decide +kernel) ⟨by dsimp only [rK]; omega, by dsimp only [rK]; omega⟩) hK hNW hP hD hS hA rfl rfl rfl rfl (by decide) rfl rfl rfl rfl rfl rfl hl.1 rfl (Nat.le_of_ble_eq_true rfl) dX6_raise_60 ⟨Nat.zero_le _, Nat.zero_le _⟩ (fun H locs hP hD hS => ?_)
              exact li_zret () hx hb hr hlocks hK hP hD hS (by decide) dX6_raise_63 hQ (by rw [← h9, raM_r (by omega) (by omega) c_55, fkd_s (d := d) (by omega) en kd, fnb_s (d := d) (by omega) en c nb, show en + (((d - 1) : Nat) : Int) + 2 + 1 = en + ((d : Nat) : Int) + 2 by omega]; try rfl) (congrArg iI (by rw [← h9, raM_r (by omega) (by omega) c_55]; rfl))
  exact loop_0 (((t - w.2.2.2 c + 100) : Int) + 1).toNat w (by exact hw) (by exact Or.inl rfl) (by have u9 := hw.2 c hc.1 hc.2; omega) _ _ hP hD hS _ (lv_sub hl [0, 1, 2] rfl)

set_option maxRecDepth 100000 in
set_option maxHeartbeats 4000000 in
theorem c_X6_runToPound {l : Launch} {D : va_G} {cI cZ cJ : ClassId} (n : Int) (L : Int) (a : Int) (rn : Int) (sp : Int) (cnt : Int) (th : Int) (w : Wt) (op : Int → Int) (tn : Int → Int) (pl : Int → Int) (en : Int) (kd : Int → Int) (nb : Int → Int) (as : Int → Int) (ln : Int → Int) (dr : Int → Int) (M0 M1 M2 M3 M4 : Nat) (hn : 1 ≤ n ∧ n ≤ 6) (hL : 5 ≤ L ∧ L ≤ 40) (ha : 1 ≤ a ∧ a ≤ 50) (hw : WI n L a w) : Dv l yX6_runToPound wsX6_runToPound 5 [.ref M0] D (ty3 cI cZ cJ) (cMd cI n L a rn sp cnt th (rowF w op tn pl en kd nb) as ln dr M0 M1 M2 M3 M4) (cMd cI n L a rn sp cnt th (rowF (rtW n L a FU w) op tn pl en kd nb) as ln dr M0 M1 M2 M3 M4) := by
  refine ct_v (plainFor_of_name (by decide)) rfl (Nat.le_of_ble_eq_true rfl) ?_
  intro p e s mI args below meth c_0 ls A hx hb hr hml hts hown hlocks hin hA hP hK hD hNW hS hl Q hQ
  have hown : s.vm.findClass RX6 = some mI.cls := hown
  have hl : lv_has ls 2 [(0, .ref M0)] := hl
  have hin_X6 : ∀ w ∈ wsX60, w ∈ wsX6_runToPound := by decide +kernel
  have hf_26 := hts (.fieldLink RX6 26 "LockStaircaseModel" "chambers" "I") (by decide +kernel)
  have hf_9 := hts (.fieldLink RX6 9 "LockStaircaseModel" "row" "[I") (by decide +kernel)
  have loop_0 : ∀ (N : Nat) (r : Int) (w2 : Wt), (0 ≤ r) → (r + (L - w2.2.2.2 (n - 1)) ≤ 100000) → (WI n L a w2) → (rtW n L a (100000 - r).toNat w2 = rtW n L a FU w) → L - w2.2.2.2 (n - 1) < (N : Int) → ∀ (H : Heap) (locs : List Loc), va_P D vwCl (cMd cI n L a rn sp cnt th (rowF w2 op tn pl en kd nb) as ln dr M0 M1 M2 M3 M4) H → va_D A (cMd cI n L a rn sp cnt th (rowF w2 op tn pl en kd nb) as ln dr M0 M1 M2 M3 M4) → va_S A s.heap H locs → ∀ (ls : Array Slot), lv_has ls 2 [(0, .ref M0)] → W p l e (rK 5 0 0) s mI args below meth c_0 H locs 0 0 Q (F0 mI 0 ls []) := by
    intro N
    induction N with
    | zero =>
      intro r w2 hrr hrm hw2 hq hN
      exact absurd hN (by have u9 := hw2.2 (n - 1) (by omega) (by omega); omega)
    | succ N ih =>
      intro r w2 hrr hrm hw2 hq hN H locs hP hD hS ls hl
      have b1 := lvA_b hn hL ha hw2 n (by omega)
      have b2 := lvA_b hn hL ha hw2 (n - 1) (by omega)
      have eh : hdA n L a w2 n = lvA n L a w2 n - lvA n L a w2 (n - 1) := rfl
      refine lv_aload_n hx hb dX6_runToPound_0 rfl (lv_at hl 0 rfl) ?_
      refine lv_aload_n hx hb dX6_runToPound_1 rfl (lv_at hl 0 rfl) ?_
      refine li_get (ci := 6) (v := .int (iI n)) (C := RX6) (T := TX6) (N := 11) (q0 := 0) (k := 0) hx hb hts hin_X6 hown hK hP rfl rfl (by decide) hf_26 rfl rfl dX6_runToPound_2 ?_
      refine cl_i0 (isC := [0, 1, 2, 3, 4]) (isR := []) (isN := [0, 1, 2, 3, 4]) (wr := []) (wn := cMd cI n L a rn sp cnt th (rowF w2 op tn pl en kd nb) as ln dr M0 M1 M2 M3 M4) (As := [.int (iI n)]) (rest := []) (r := hdA n L a w2 n) (ci := 6) (q0 := 0) ⟨hx, hb, hml, hown, hts⟩ (c_X6_head n L a rn sp cnt th w2 op tn pl en kd nb as ln dr M0 M1 M2 M3 M4 n (by first | assumption | omega) (by first | assumption | omega) (by first | assumption | omega) (by exact hw2) (by first | assumption | omega)) (cwV 1 hts gX6_runToPound_X6_head rfl rfl rfl (by decide +kernel) ⟨Nat.le_of_ble_eq_true rfl, Nat.le_of_ble_eq_true rfl⟩) hK hNW hP hD hS hA rfl rfl rfl rfl (by decide) rfl rfl rfl rfl rfl rfl hl.1 rfl (Nat.le_of_ble_eq_true rfl) dX6_runToPound_5 ⟨Nat.zero_le _, Nat.zero_le _⟩ (fun H locs hP hD hS => ?_)
      refine li_if_le (tgt := 31) hx hb dX6_runToPound_8 (by decide) (ib_i (by omega) (by omega)) (fun c_8 => ?_) (fun c_8 => ?_)
      · exact li_vret () hx hb hr hlocks hK hP hD hS dX6_runToPound_31 hQ (by rw [rtW_f _ (by omega)] at hq; rw [hq]) trivial
      · refine lv_aload_n hx hb dX6_runToPound_11 rfl (lv_at hl 0 rfl) ?_
        refine li_bipush hx hb dX6_runToPound_12 (by decide) ?_
        refine cl_i0 (isC := [0, 1, 2, 3, 4]) (isR := []) (isN := [0, 1, 2, 3, 4]) (wr := []) (wn := cMd cI n L a rn sp cnt th (rowF ((flW n L a n (20 : Int).toNat w2).2) op tn pl en kd nb) as ln dr M0 M1 M2 M3 M4) (As := [.int (iI 20)]) (rest := []) (r := (flW n L a n (20 : Int).toNat w2).1) (ci := 6) (q0 := 0) ⟨hx, hb, hml, hown, hts⟩ (c_X6_flowFromPound n L a rn sp cnt th w2 op tn pl en kd nb as ln dr M0 M1 M2 M3 M4 20 (by first | assumption | omega) (by first | assumption | omega) (by first | assumption | omega) (by exact hw2) (by first | assumption | omega)) (cwV 1 hts gX6_runToPound_X6_flowFromPound rfl rfl rfl (by decide +kernel) ⟨Nat.le_of_ble_eq_true rfl, Nat.le_of_ble_eq_true rfl⟩) hK hNW hP hD hS hA rfl rfl rfl rfl (by decide) rfl rfl rfl rfl rfl rfl hl.1 rfl (Nat.le_of_ble_eq_true rfl) dX6_runToPound_14 ⟨Nat.zero_le _, Nat.zero_le _⟩ (fun H locs hP hD hS => ?_)
        refine lv_istore_n (lv' := [(1, .int (iI ((flW n L a n (20 : Int).toNat w2).1))), (0, .ref M0)]) hx hb dX6_runToPound_17 rfl hl (by decide) rfl (fun ls hl => ?_)
        refine lv_aload_n hx hb dX6_runToPound_18 rfl (lv_at hl 1 rfl) ?_
        refine li_get (ci := 6) (v := .ref M1) (C := RX6) (T := TX6) (N := 11) (q0 := 0) (k := 5) hx hb hts hin_X6 hown hK hP rfl rfl (by decide) hf_9 rfl rfl dX6_runToPound_19 ?_
        refine li_const hx hb dX6_runToPound_22 ?_
        refine lv_dup2_11 hx hb dX6_runToPound_23 rfl rfl ?_
        refine li_iald (q0 := 1) (t0 := 0) (g := (rowF ((flW n L a n (20 : Int).toNat w2).2) op tn pl en kd nb)) hx hb hK hP rfl rfl (by omega) (by omega) (by decide) dX6_runToPound_24 ?_
        refine li_top (b := ((flW n L a n (20 : Int).toNat w2).2).2.2.1) (rd_T rfl) ?_
        refine li_const hx hb dX6_runToPound_25 ?_
        refine li_add hx hb dX6_runToPound_26 ?_
        refine li_iast (q0 := 1) (t0 := 0) (g := (rowF ((flW n L a n (20 : Int).toNat w2).2) op tn pl en kd nb)) (w2 := cMd cI n L a rn sp cnt th (rowF (((flW n L a n (20 : Int).toNat w2).2).1, ((flW n L a n (20 : Int).toNat w2).2).2.1, (((flW n L a n (20 : Int).toNat w2).2).2.2.1) + 1, ((flW n L a n (20 : Int).toNat w2).2).2.2.2) op tn pl en kd nb) as ln dr M0 M1 M2 M3 M4) hx hb hK hP hD hS rfl rfl (by omega) (by omega) (by decide) dX6_runToPound_27 (by rw [wr_T rfl] <;> rfl) (fun H locs hP hD hS => ?_)
        refine lv_goto (tgt := 0) hx hb dX6_runToPound_28 (by decide) ?_
        have d9 := up_dec hn hL ha hw2 (by omega)
        have d8 := d9.2.1
        have d7 := d9.2.2
        have he9 : (100000 - r).toNat = (100000 - (r + 1)).toNat + 1 := by omega
        exact ih (r + 1) (((flW n L a n (20 : Int).toNat w2).2).1, ((flW n L a n (20 : Int).toNat w2).2).2.1, (((flW n L a n (20 : Int).toNat w2).2).2.2.1) + 1, ((flW n L a n (20 : Int).toNat w2).2).2.2.2) (by omega) (by show r + 1 + (L - (tickW 1 (flW n L a n 20 w2).2).2.2.2 (n - 1)) ≤ 100000; omega) (by exact d9.1) (by rw [he9, rtW_t _ (by omega)] at hq; exact hq) (by show L - (tickW 1 (flW n L a n 20 w2).2).2.2.2 (n - 1) < (N : Int); omega) _ _ hP hD hS _ (lv_sub hl [1] rfl)
  exact loop_0 (((L - w.2.2.2 (n - 1)) : Int) + 1).toNat 0 w (by omega) (by have u9 := hw.2 (n - 1) (by omega) (by omega); omega) (by exact hw) (by rfl) (by have u9 := hw.2 (n - 1) (by omega) (by omega); omega) _ _ hP hD hS _ (lv_sub hl [0] rfl)

set_option maxRecDepth 100000 in
set_option maxHeartbeats 4000000 in
theorem c_X6_levelHighest {l : Launch} {D : va_G} {cI cZ cJ : ClassId} (n : Int) (L : Int) (a : Int) (rn : Int) (sp : Int) (cnt : Int) (th : Int) (w : Wt) (op : Int → Int) (tn : Int → Int) (pl : Int → Int) (en : Int) (kd : Int → Int) (nb : Int → Int) (as : Int → Int) (ln : Int → Int) (dr : Int → Int) (M0 M1 M2 M3 M4 : Nat) (hn : 1 ≤ n ∧ n ≤ 6) (hL : 5 ≤ L ∧ L ≤ 40) (ha : 1 ≤ a ∧ a ≤ 50) (hw : WI n L a w) (hen : 0 ≤ en ∧ en ≤ 7) : Di l yX6_levelHighest wsX6_levelHighest 20 [.ref M0] D (ty3 cI cZ cJ) (cMd cI n L a rn sp cnt th (rowF w op tn pl en kd nb) as ln dr M0 M1 M2 M3 M4) (bz ((lhM n L a FU w).1 = true)) (cMd cI n L a rn sp cnt th (rowF ((lhM n L a FU w).2) op tn pl (if (lhM n L a FU w).1 = true then en else en + 1) (if (lhM n L a FU w).1 = true then kd else shZ kd en 5) (if (lhM n L a FU w).1 = true then nb else shZ nb en (-1))) as ln dr M0 M1 M2 M3 M4) := by
  refine ct_i (plainFor_of_name (by decide)) rfl (Nat.le_of_ble_eq_true rfl) ?_
  intro p e s mI args below meth c_0 ls A hx hb hr hml hts hown hlocks hin hA hP hK hD hNW hS hl Q hQ
  have hown : s.vm.findClass RX6 = some mI.cls := hown
  have hl : lv_has ls 2 [(0, .ref M0)] := hl
  have hin_X6 : ∀ w ∈ wsX60, w ∈ wsX6_levelHighest := by decide +kernel
  have hf_26 := hts (.fieldLink RX6 26 "LockStaircaseModel" "chambers" "I") (by decide +kernel)
  have hf_30 := hts (.fieldLink RX6 30 "LockStaircaseModel" "lift" "I") (by decide +kernel)
  refine lv_aload_n hx hb dX6_levelHighest_0 rfl (lv_at hl 0 rfl) ?_
  refine li_get (ci := 6) (v := .int (iI L)) (C := RX6) (T := TX6) (N := 11) (q0 := 0) (k := 1) hx hb hts hin_X6 hown hK hP rfl rfl (by decide) hf_30 rfl rfl dX6_levelHighest_1 ?_
  refine lv_aload_n hx hb dX6_levelHighest_4 rfl (lv_at hl 0 rfl) ?_
  refine li_get (ci := 6) (v := .int (iI n)) (C := RX6) (T := TX6) (N := 11) (q0 := 0) (k := 0) hx hb hts hin_X6 hown hK hP rfl rfl (by decide) hf_26 rfl rfl dX6_levelHighest_5 ?_
  refine li_const hx hb dX6_levelHighest_8 ?_
  refine li_sub hx hb dX6_levelHighest_9 ?_
  refine li_mul hx hb dX6_levelHighest_10 ?_
  refine li_top (b := (n - 1) * L) (by exact Int.mul_comm L (n - 1)) ?_
  refine lv_istore_n (lv' := [(1, .int (iI ((n - 1) * L))), (0, .ref M0)]) hx hb dX6_levelHighest_11 rfl hl (by decide) rfl (fun ls hl => ?_)
  have loop_12 : ∀ (N : Nat) (w2 : Wt), (WI n L a w2) → (lhC n L a w2 = lhM n L a FU w) → muH n L a w2 < (N : Int) → ∀ (H : Heap) (locs : List Loc), va_P D vwCl (cMd cI n L a rn sp cnt th (rowF w2 op tn pl en kd nb) as ln dr M0 M1 M2 M3 M4) H → va_D A (cMd cI n L a rn sp cnt th (rowF w2 op tn pl en kd nb) as ln dr M0 M1 M2 M3 M4) → va_S A s.heap H locs → ∀ (ls : Array Slot), lv_has ls 2 [(1, .int (iI ((n - 1) * L))), (0, .ref M0)] → W p l e (rK 20 0 0) s mI args below meth c_0 H locs 0 0 Q (F0 mI 12 ls []) := by
    intro N
    induction N with
    | zero =>
      intro w2 hw2 hq hN
      exact absurd hN (by have u9 := muH_g n L a w2; omega)
    | succ N ih =>
      intro w2 hw2 hq hN H locs hP hD hS ls hl
      have b1 := lvA_b hn hL ha hw2 n (by omega)
      have b2 := lvA_b hn hL ha hw2 (n - 1) (by omega)
      have eh : hdA n L a w2 n = lvA n L a w2 n - lvA n L a w2 (n - 1) := rfl
      have ec := lvA_c (L := L) (a := a) (w := w2) (show 0 ≤ n - 1 by omega) (show n - 1 < n by omega)
      have uc := hw2.2 (n - 1) (by omega) (by omega)
      have m1 := mu_b (g := n - 1) (by omega) (by omega) hL
      refine lv_aload_n hx hb dX6_levelHighest_12 rfl (lv_at hl 1 rfl) ?_
      refine lv_aload_n hx hb dX6_levelHighest_13 rfl (lv_at hl 1 rfl) ?_
      refine li_get (ci := 6) (v := .int (iI n)) (C := RX6) (T := TX6) (N := 11) (q0 := 0) (k := 0) hx hb hts hin_X6 hown hK hP rfl rfl (by decide) hf_26 rfl rfl dX6_levelHighest_14 ?_
      refine cl_i0 (isC := [0, 1, 2, 3, 4]) (isR := []) (isN := [0, 1, 2, 3, 4]) (wr := []) (wn := cMd cI n L a rn sp cnt th (rowF w2 op tn pl en kd nb) as ln dr M0 M1 M2 M3 M4) (As := [.int (iI n)]) (rest := []) (r := hdA n L a w2 n) (ci := 6) (q0 := 0) ⟨hx, hb, hml, hown, hts⟩ (c_X6_head n L a rn sp cnt th w2 op tn pl en kd nb as ln dr M0 M1 M2 M3 M4 n (by first | assumption | omega) (by first | assumption | omega) (by first | assumption | omega) (by exact hw2) (by first | assumption | omega)) (cwV 1 hts gX6_levelHighest_X6_head rfl rfl rfl (by decide +kernel) ⟨Nat.le_of_ble_eq_true rfl, Nat.le_of_ble_eq_true rfl⟩) hK hNW hP hD hS hA rfl rfl rfl rfl (by decide) rfl rfl rfl rfl rfl rfl hl.1 rfl (Nat.le_of_ble_eq_true rfl) dX6_levelHighest_17 ⟨Nat.zero_le _, Nat.zero_le _⟩ (fun H locs hP hD hS => ?_)
      refine li_if_eq (tgt := 74) hx hb dX6_levelHighest_20 (by decide) (ib_i (by omega) (by omega)) (fun c_20 => ?_) (fun c_20 => ?_)
      · refine li_const hx hb dX6_levelHighest_74 ?_
        exact li_zret () hx hb hr hlocks hK hP hD hS (by decide) dX6_levelHighest_75 hQ (by rw [← hq, lhC_z c_20]; rfl) (congrArg iI (by rw [← hq, lhC_z c_20]; rfl))
      · refine lv_aload_n hx hb dX6_levelHighest_23 rfl (lv_at hl 1 rfl) ?_
        refine cl_i0 (isC := [0, 1, 2, 3, 4]) (isR := []) (isN := [0, 1, 2, 3, 4]) (wr := []) (wn := cMd cI n L a rn sp cnt th (rowF w2 op tn pl en kd nb) as ln dr M0 M1 M2 M3 M4) (As := []) (rest := []) (r := lvA n L a w2 n) (ci := 6) (q0 := 0) ⟨hx, hb, hml, hown, hts⟩ (c_X6_pound n L a rn sp cnt th w2 op tn pl en kd nb as ln dr M0 M1 M2 M3 M4 (by first | assumption | omega) (by first | assumption | omega) (by first | assumption | omega) (by exact hw2)) (cwV 0 hts gX6_levelHighest_X6_pound rfl rfl rfl (by decide +kernel) ⟨Nat.le_of_ble_eq_true rfl, Nat.le_of_ble_eq_true rfl⟩) hK hNW hP hD hS hA rfl rfl rfl rfl (by decide) rfl rfl rfl rfl rfl rfl hl.1 rfl (Nat.le_of_ble_eq_true rfl) dX6_levelHighest_24 ⟨Nat.zero_le _, Nat.zero_le _⟩ (fun H locs hP hD hS => ?_)
        refine lv_iload_n hx hb dX6_levelHighest_27 rfl (lv_at hl 0 rfl) ?_
        refine li_icmp_ge (tgt := 37) hx hb dX6_levelHighest_28 (by decide) (ib_i (by omega) (by omega)) (ib_i (by omega) (by omega)) (fun c_28 => ?_) (fun c_28 => ?_)
        · refine lv_aload_n hx hb dX6_levelHighest_37 rfl (lv_at hl 1 rfl) ?_
          refine lv_aload_n hx hb dX6_levelHighest_38 rfl (lv_at hl 1 rfl) ?_
          refine li_get (ci := 6) (v := .int (iI n)) (C := RX6) (T := TX6) (N := 11) (q0 := 0) (k := 0) hx hb hts hin_X6 hown hK hP rfl rfl (by decide) hf_26 rfl rfl dX6_levelHighest_39 ?_
          refine cl_i0 (isC := [0, 1, 2, 3, 4]) (isR := []) (isN := [0, 1, 2, 3, 4]) (wr := []) (wn := cMd cI n L a rn sp cnt th (rowF w2 op tn pl en kd nb) as ln dr M0 M1 M2 M3 M4) (As := [.int (iI n)]) (rest := []) (r := hdA n L a w2 n) (ci := 6) (q0 := 0) ⟨hx, hb, hml, hown, hts⟩ (c_X6_head n L a rn sp cnt th w2 op tn pl en kd nb as ln dr M0 M1 M2 M3 M4 n (by first | assumption | omega) (by first | assumption | omega) (by first | assumption | omega) (by exact hw2) (by first | assumption | omega)) (cwV 1 hts gX6_levelHighest_X6_head rfl rfl rfl (by decide +kernel) ⟨Nat.le_of_ble_eq_true rfl, Nat.le_of_ble_eq_true rfl⟩) hK hNW hP hD hS hA rfl rfl rfl rfl (by decide) rfl rfl rfl rfl rfl rfl hl.1 rfl (Nat.le_of_ble_eq_true rfl) dX6_levelHighest_42 ⟨Nat.zero_le _, Nat.zero_le _⟩ (fun H locs hP hD hS => ?_)
          refine li_if_le (tgt := 55) hx hb dX6_levelHighest_45 (by decide) (ib_i (by omega) (by omega)) (fun c_45 => ?_) (fun c_45 => ?_)
          · refine lv_aload_n hx hb dX6_levelHighest_55 rfl (lv_at hl 1 rfl) ?_
            refine lv_aload_n hx hb dX6_levelHighest_56 rfl (lv_at hl 1 rfl) ?_
            refine li_get (ci := 6) (v := .int (iI n)) (C := RX6) (T := TX6) (N := 11) (q0 := 0) (k := 0) hx hb hts hin_X6 hown hK hP rfl rfl (by decide) hf_26 rfl rfl dX6_levelHighest_57 ?_
            refine li_const hx hb dX6_levelHighest_60 ?_
            refine li_sub hx hb dX6_levelHighest_61 ?_
            refine lv_aload_n hx hb dX6_levelHighest_62 rfl (lv_at hl 1 rfl) ?_
            refine cl_i0 (isC := [0, 1, 2, 3, 4]) (isR := []) (isN := [0, 1, 2, 3, 4]) (wr := []) (wn := cMd cI n L a rn sp cnt th (rowF w2 op tn pl en kd nb) as ln dr M0 M1 M2 M3 M4) (As := []) (rest := [.int (iI (n - 1)), .ref M0]) (r := lvA n L a w2 n) (ci := 6) (q0 := 0) ⟨hx, hb, hml, hown, hts⟩ (c_X6_pound n L a rn sp cnt th w2 op tn pl en kd nb as ln dr M0 M1 M2 M3 M4 (by first | assumption | omega) (by first | assumption | omega) (by first | assumption | omega) (by exact hw2)) (cwV 0 hts gX6_levelHighest_X6_pound rfl rfl rfl (by decide +kernel) ⟨Nat.le_of_ble_eq_true rfl, Nat.le_of_ble_eq_true rfl⟩) hK hNW hP hD hS hA rfl rfl rfl rfl (by decide) rfl rfl rfl rfl rfl rfl hl.1 rfl (Nat.le_of_ble_eq_true rfl) dX6_levelHighest_63 ⟨Nat.zero_le _, Nat.zero_le _⟩ (fun H locs hP hD hS => ?_)
            refine lv_iload_n hx hb dX6_levelHighest_66 rfl (lv_at hl 0 rfl) ?_
            refine li_sub hx hb dX6_levelHighest_67 ?_
            refine cl_v0 (isC := [0, 1, 2, 3, 4]) (isR := []) (isN := [0, 1, 2, 3, 4]) (wr := []) (wn := cMd cI n L a rn sp cnt th (rowF (loM n L a (n - 1).toNat ((lvA n L a w2 n) - ((n - 1) * L)) w2) op tn pl en kd nb) as ln dr M0 M1 M2 M3 M4) (As := [.int (iI (n - 1)), .int (iI ((lvA n L a w2 n) - ((n - 1) * L)))]) (rest := []) (ci := 6) (q0 := 0) ⟨hx, hb, hml, hown, hts⟩ (cr_X6_lower ((n - 1).toNat) n L a rn sp cnt th w2 op tn pl en kd nb as ln dr M0 M1 M2 M3 M4 (n - 1) ((lvA n L a w2 n) - ((n - 1) * L)) (by first | assumption | omega) (by first | assumption | omega) (by first | assumption | omega) (by exact hw2) (by first | assumption | omega) (by first | assumption | omega) rfl) (cwV 2 hts gX6_levelHighest_X6_lower rfl rfl rfl (by decide +kernel) ⟨by dsimp only [rK]; omega, by dsimp only [rK]; omega⟩) hK hNW hP hD hS hA rfl rfl rfl rfl (by decide) rfl rfl rfl rfl rfl rfl hl.1 rfl (Nat.le_of_ble_eq_true rfl) dX6_levelHighest_68 ⟨Nat.zero_le _, Nat.zero_le _⟩ (fun H locs hP hD hS => ?_)
            refine lv_goto (tgt := 12) hx hb dX6_levelHighest_71 (by decide) ?_
            exact ih (loM n L a (n - 1).toNat ((lvA n L a w2 n) - ((n - 1) * L)) w2) (by first | exact (rtW_end hn hL ha FU w2 hw2 (FU_ge hn hL hw2)).1 | exact loM_WI hn hL ha _ _ _ (by omega) hw2) (by first | (rw [lhC_rt hn hL ha hw2]; exact hq) | (rw [lhC_lo hn hL ha hw2 c_20 (by omega) (by omega)]; exact hq)) (by first | (have q9 := muH_le (rtW_end hn hL ha FU w2 hw2 (FU_ge hn hL hw2)).2; have q8 := muH_2 (n := n) (L := L) (a := a) (w := w2) (by omega); omega) | (have q9 := muH_0 (lo_hd hn hL ha hw2 (by omega) (by omega)); have q8 := muH_1 (n := n) (L := L) (a := a) (w := w2) c_20 (by omega); omega)) _ _ hP hD hS _ (lv_sub hl [0, 1] rfl)
          · refine lv_aload_n hx hb dX6_levelHighest_48 rfl (lv_at hl 1 rfl) ?_
            refine cl_v0 (isC := [0, 1, 2, 3, 4]) (isR := []) (isN := [0, 1, 2, 3, 4]) (wr := []) (wn := cMd cI n L a rn sp cnt th (rowF (rtW n L a FU w2) op tn pl en kd nb) as ln dr M0 M1 M2 M3 M4) (As := []) (rest := []) (ci := 6) (q0 := 0) ⟨hx, hb, hml, hown, hts⟩ (c_X6_runToPound n L a rn sp cnt th w2 op tn pl en kd nb as ln dr M0 M1 M2 M3 M4 (by first | assumption | omega) (by first | assumption | omega) (by first | assumption | omega) (by exact hw2)) (cwV 0 hts gX6_levelHighest_X6_runToPound rfl rfl rfl (by decide +kernel) ⟨Nat.le_of_ble_eq_true rfl, Nat.le_of_ble_eq_true rfl⟩) hK hNW hP hD hS hA rfl rfl rfl rfl (by decide) rfl rfl rfl rfl rfl rfl hl.1 rfl (Nat.le_of_ble_eq_true rfl) dX6_levelHighest_49 ⟨Nat.zero_le _, Nat.zero_le _⟩ (fun H locs hP hD hS => ?_)
            refine lv_goto (tgt := 12) hx hb dX6_levelHighest_52 (by decide) ?_
            exact ih (rtW n L a FU w2) (by first | exact (rtW_end hn hL ha FU w2 hw2 (FU_ge hn hL hw2)).1 | exact loM_WI hn hL ha _ _ _ (by omega) hw2) (by first | (rw [lhC_rt hn hL ha hw2]; exact hq) | (rw [lhC_lo hn hL ha hw2 c_20 (by omega) (by omega)]; exact hq)) (by first | (have q9 := muH_le (rtW_end hn hL ha FU w2 hw2 (FU_ge hn hL hw2)).2; have q8 := muH_2 (n := n) (L := L) (a := a) (w := w2) (by omega); omega) | (have q9 := muH_0 (lo_hd hn hL ha hw2 (by omega) (by omega)); have q8 := muH_1 (n := n) (L := L) (a := a) (w := w2) c_20 (by omega); omega)) _ _ hP hD hS _ (lv_sub hl [0, 1] rfl)
        · refine lv_aload_n hx hb dX6_levelHighest_31 rfl (lv_at hl 1 rfl) ?_
          refine li_const hx hb dX6_levelHighest_32 ?_
          refine cl_i0 (isC := [0, 1, 2, 3, 4]) (isR := []) (isN := [0, 1, 2, 3, 4]) (wr := []) (wn := cMd cI n L a rn sp cnt th (rowF w2 op tn pl (en + 1) (shZ kd en 5) (shZ nb en (-1))) as ln dr M0 M1 M2 M3 M4) (As := [.int (iI 5)]) (rest := []) (r := 0) (ci := 6) (q0 := 0) ⟨hx, hb, hml, hown, hts⟩ (c_X6_fails n L a rn sp cnt th w2 op tn pl en kd nb as ln dr M0 M1 M2 M3 M4 5 (by first | assumption | omega)) (cwV 1 hts gX6_levelHighest_X6_fails rfl rfl rfl (by decide +kernel) ⟨Nat.le_of_ble_eq_true rfl, Nat.le_of_ble_eq_true rfl⟩) hK hNW hP hD hS hA rfl rfl rfl rfl (by decide) rfl rfl rfl rfl rfl rfl hl.1 rfl (Nat.le_of_ble_eq_true rfl) dX6_levelHighest_33 ⟨Nat.zero_le _, Nat.zero_le _⟩ (fun H locs hP hD hS => ?_)
          exact li_zret () hx hb hr hlocks hK hP hD hS (by decide) dX6_levelHighest_36 hQ (by rw [← hq, lhC_b c_20 (by omega) (by omega)]; rfl) (congrArg iI (by rw [← hq, lhC_b c_20 (by omega) (by omega)]; rfl))
  exact loop_12 (((muH n L a w) : Int) + 1).toNat w (by exact hw) (by exact (lhM_FU hn hL ha hw).symm) (by have u9 := muH_g n L a w; omega) _ _ hP hD hS _ (lv_sub hl [0, 1] rfl)

set_option maxRecDepth 100000 in
set_option maxHeartbeats 4000000 in
theorem c_X6_levelGate {l : Launch} {D : va_G} {cI cZ cJ : ClassId} (n : Int) (L : Int) (a : Int) (rn : Int) (sp : Int) (cnt : Int) (th : Int) (w : Wt) (op : Int → Int) (tn : Int → Int) (pl : Int → Int) (en : Int) (kd : Int → Int) (nb : Int → Int) (as : Int → Int) (ln : Int → Int) (dr : Int → Int) (M0 M1 M2 M3 M4 : Nat) (g : Int) (hn : 1 ≤ n ∧ n ≤ 6) (hL : 5 ≤ L ∧ L ≤ 40) (ha : 1 ≤ a ∧ a ≤ 50) (hw : WI n L a w) (hg : 0 ≤ g ∧ g ≤ n) (hen : en = 0) : Di l yX6_levelGate wsX6_levelGate 21 [.ref M0, .int (iI g)] D (ty3 cI cZ cJ) (cMd cI n L a rn sp cnt th (rowF w op tn pl en kd nb) as ln dr M0 M1 M2 M3 M4) (bz ((lvX n L a g w).1 = true)) (cMd cI n L a rn sp cnt th (rowF ((lvX n L a g w).2) op tn pl (if (lvX n L a g w).1 = true then en else lne n g en) (if (lvX n L a g w).1 = true then kd else lkd n g en kd) (if (lvX n L a g w).1 = true then nb else lnb n g en nb)) as ln dr M0 M1 M2 M3 M4) := by
  refine ct_i (plainFor_of_name (by decide)) rfl (Nat.le_of_ble_eq_true rfl) ?_
  intro p e s mI args below meth c_0 ls A hx hb hr hml hts hown hlocks hin hA hP hK hD hNW hS hl Q hQ
  have hown : s.vm.findClass RX6 = some mI.cls := hown
  have hl : lv_has ls 2 [(0, .ref M0), (1, .int (iI g))] := hl
  have hin_X6 : ∀ w ∈ wsX60, w ∈ wsX6_levelGate := by decide +kernel
  have hf_26 := hts (.fieldLink RX6 26 "LockStaircaseModel" "chambers" "I") (by decide +kernel)
  have hf_30 := hts (.fieldLink RX6 30 "LockStaircaseModel" "lift" "I") (by decide +kernel)
  refine lv_iload_n hx hb dX6_levelGate_0 rfl (lv_at hl 1 rfl) ?_
  refine lv_aload_n hx hb dX6_levelGate_1 rfl (lv_at hl 0 rfl) ?_
  refine li_get (ci := 6) (v := .int (iI n)) (C := RX6) (T := TX6) (N := 11) (q0 := 0) (k := 0) hx hb hts hin_X6 hown hK hP rfl rfl (by decide) hf_26 rfl rfl dX6_levelGate_2 ?_
  refine li_icmp_ne (tgt := 13) hx hb dX6_levelGate_5 (by decide) (ib_i (by omega) (by omega)) (ib_i (by omega) (by omega)) (fun c_5 => ?_) (fun c_5 => ?_)
  · refine lv_aload_n hx hb dX6_levelGate_13 rfl (lv_at hl 0 rfl) ?_
    refine lv_iload_n hx hb dX6_levelGate_14 rfl (lv_at hl 1 rfl) ?_
    refine li_const hx hb dX6_levelGate_15 ?_
    refine cl_v0 (isC := [0, 1, 2, 3, 4]) (isR := []) (isN := [0, 1, 2, 3, 4]) (wr := []) (wn := cMd cI n L a rn sp cnt th (rowF (loM n L a g.toNat 0 w) op tn pl en kd nb) as ln dr M0 M1 M2 M3 M4) (As := [.int (iI g), .int (iI 0)]) (rest := []) (ci := 6) (q0 := 0) ⟨hx, hb, hml, hown, hts⟩ (cr_X6_lower g.toNat n L a rn sp cnt th w op tn pl en kd nb as ln dr M0 M1 M2 M3 M4 g 0 (by first | assumption | omega) (by first | assumption | omega) (by first | assumption | omega) (by first | assumption | omega) (by first | assumption | omega) (by first | assumption | omega) rfl) (cwV 2 hts gX6_levelGate_X6_lower rfl rfl rfl (by decide +kernel) ⟨by dsimp only [rK]; omega, by dsimp only [rK]; omega⟩) hK hNW hP hD hS hA rfl rfl rfl rfl (by decide) rfl rfl rfl rfl rfl rfl hl.1 rfl (Nat.le_of_ble_eq_true rfl) dX6_levelGate_16 ⟨Nat.zero_le _, Nat.zero_le _⟩ (fun H locs hP hD hS => ?_)
    refine lv_iload_n hx hb dX6_levelGate_19 rfl (lv_at hl 1 rfl) ?_
    refine li_if_eq (tgt := 37) hx hb dX6_levelGate_20 (by decide) (ib_i (by omega) (by omega)) (fun c_20 => ?_) (fun c_20 => ?_)
    · refine li_const hx hb dX6_levelGate_37 ?_
      refine lv_goto (tgt := 42) hx hb dX6_levelGate_38 (by decide) ?_
      exact li_zret () hx hb hr hlocks hK hP hD hS (by decide) dX6_levelGate_42 hQ (by unfold lvX lvG lkd lnb lne; first | (simp only [if_neg c_5, if_pos c_20] <;> rfl) | (simp only [if_neg c_5, if_neg c_20, if_pos c_34] <;> rfl) | (simp only [if_neg c_5, if_neg c_20, if_neg c_34] <;> rfl)) (congrArg iI (by unfold lvX; rw [if_neg c_5]; unfold lvG; first | (rw [if_pos (by assumption)]; rfl) | (rw [if_neg (by assumption)]; first | exact (bz_t (by first | assumption | exact decide_eq_true (by omega))).symm | exact (bz_f (by first | assumption | (rw [decide_eq_true_eq]; omega))).symm)))
    · refine lv_aload_n hx hb dX6_levelGate_23 rfl (lv_at hl 0 rfl) ?_
      refine lv_iload_n hx hb dX6_levelGate_24 rfl (lv_at hl 1 rfl) ?_
      refine li_const hx hb dX6_levelGate_25 ?_
      refine li_sub hx hb dX6_levelGate_26 ?_
      refine lv_aload_n hx hb dX6_levelGate_27 rfl (lv_at hl 0 rfl) ?_
      refine li_get (ci := 6) (v := .int (iI L)) (C := RX6) (T := TX6) (N := 11) (q0 := 0) (k := 1) hx hb hts hin_X6 hown hK hP rfl rfl (by decide) hf_30 rfl rfl dX6_levelGate_28 ?_
      refine cl_i0 (isC := [0, 1, 2, 3, 4]) (isR := []) (isN := [0, 1, 2, 3, 4]) (wr := []) (wn := cMd cI n L a rn sp cnt th (rowF ((raM n L a ((n - g).toNat) (g - 1) L (loM n L a g.toNat 0 w)).2) op tn pl (if (raM n L a ((n - g).toNat) (g - 1) L (loM n L a g.toNat 0 w)).1 = true then en else en + ((((n - g).toNat) : Nat) : Int) + 2) (if (raM n L a ((n - g).toNat) (g - 1) L (loM n L a g.toNat 0 w)).1 = true then kd else fkd ((n - g).toNat) en kd) (if (raM n L a ((n - g).toNat) (g - 1) L (loM n L a g.toNat 0 w)).1 = true then nb else fnb ((n - g).toNat) en (g - 1) nb)) as ln dr M0 M1 M2 M3 M4) (As := [.int (iI (g - 1)), .int (iI L)]) (rest := []) (r := bz ((raM n L a ((n - g).toNat) (g - 1) L (loM n L a g.toNat 0 w)).1 = true)) (ci := 6) (q0 := 0) ⟨hx, hb, hml, hown, hts⟩ (cr_X6_raise ((n - g).toNat) n L a rn sp cnt th (loM n L a g.toNat 0 w) op tn pl en kd nb as ln dr M0 M1 M2 M3 M4 (g - 1) L (by first | assumption | omega) (by first | assumption | omega) (by first | assumption | omega) (by exact loM_WI hn hL ha _ _ _ (by omega) hw) (by first | assumption | omega) (by first | assumption | omega) (by first | assumption | omega) (by omega)) (cwV 2 hts gX6_levelGate_X6_raise rfl rfl rfl (by decide +kernel) ⟨by dsimp only [rK]; omega, by dsimp only [rK]; omega⟩) hK hNW hP hD hS hA rfl rfl rfl rfl (by decide) rfl rfl rfl rfl rfl rfl hl.1 rfl (Nat.le_of_ble_eq_true rfl) dX6_levelGate_31 ⟨Nat.zero_le _, Nat.zero_le _⟩ (fun H locs hP hD hS => ?_)
      refine li_ifb_eq (tgt := 41) hx hb dX6_levelGate_34 (by decide) (fun c_34 => ?_) (fun c_34 => ?_)
      · simp only [if_neg c_34] at hP hD
        refine li_const hx hb dX6_levelGate_41 ?_
        exact li_zret () hx hb hr hlocks hK hP hD hS (by decide) dX6_levelGate_42 hQ (by unfold lvX lvG lkd lnb lne; first | (simp only [if_neg c_5, if_pos c_20] <;> rfl) | (simp only [if_neg c_5, if_neg c_20, if_pos c_34] <;> rfl) | (simp only [if_neg c_5, if_neg c_20, if_neg c_34] <;> rfl)) (congrArg iI (by unfold lvX; rw [if_neg c_5]; unfold lvG; first | (rw [if_pos (by assumption)]; rfl) | (rw [if_neg (by assumption)]; first | exact (bz_t (by first | assumption | exact decide_eq_true (by omega))).symm | exact (bz_f (by first | assumption | (rw [decide_eq_true_eq]; omega))).symm)))
      · simp only [if_pos c_34] at hP hD
        refine li_const hx hb dX6_levelGate_37 ?_
        refine lv_goto (tgt := 42) hx hb dX6_levelGate_38 (by decide) ?_
        exact li_zret () hx hb hr hlocks hK hP hD hS (by decide) dX6_levelGate_42 hQ (by unfold lvX lvG lkd lnb lne; first | (simp only [if_neg c_5, if_pos c_20] <;> rfl) | (simp only [if_neg c_5, if_neg c_20, if_pos c_34] <;> rfl) | (simp only [if_neg c_5, if_neg c_20, if_neg c_34] <;> rfl)) (congrArg iI (by unfold lvX; rw [if_neg c_5]; unfold lvG; first | (rw [if_pos (by assumption)]; rfl) | (rw [if_neg (by assumption)]; first | exact (bz_t (by first | assumption | exact decide_eq_true (by omega))).symm | exact (bz_f (by first | assumption | (rw [decide_eq_true_eq]; omega))).symm)))
  · refine lv_aload_n hx hb dX6_levelGate_8 rfl (lv_at hl 0 rfl) ?_
    refine cl_i0 (isC := [0, 1, 2, 3, 4]) (isR := []) (isN := [0, 1, 2, 3, 4]) (wr := []) (wn := cMd cI n L a rn sp cnt th (rowF ((lhM n L a FU w).2) op tn pl (if (lhM n L a FU w).1 = true then en else en + 1) (if (lhM n L a FU w).1 = true then kd else shZ kd en 5) (if (lhM n L a FU w).1 = true then nb else shZ nb en (-1))) as ln dr M0 M1 M2 M3 M4) (As := []) (rest := []) (r := bz ((lhM n L a FU w).1 = true)) (ci := 6) (q0 := 0) ⟨hx, hb, hml, hown, hts⟩ (c_X6_levelHighest n L a rn sp cnt th w op tn pl en kd nb as ln dr M0 M1 M2 M3 M4 (by first | assumption | omega) (by first | assumption | omega) (by first | assumption | omega) (by first | assumption | omega) (by first | assumption | omega)) (cwV 0 hts gX6_levelGate_X6_levelHighest rfl rfl rfl (by decide +kernel) ⟨Nat.le_of_ble_eq_true rfl, Nat.le_of_ble_eq_true rfl⟩) hK hNW hP hD hS hA rfl rfl rfl rfl (by decide) rfl rfl rfl rfl rfl rfl hl.1 rfl (Nat.le_of_ble_eq_true rfl) dX6_levelGate_9 ⟨Nat.zero_le _, Nat.zero_le _⟩ (fun H locs hP hD hS => ?_)
    exact li_zret () hx hb hr hlocks hK hP hD hS (by exact bz_01 _) dX6_levelGate_12 hQ (by unfold lvX lkd lnb lne; simp only [if_pos c_5]) (congrArg iI (by unfold lvX; rw [if_pos c_5]))
