set_option maxRecDepth 100000 in
set_option maxHeartbeats 4000000 in
theorem c_X4_runSluice {l : Launch} {D : va_G} {cI cZ cJ : ClassId} (n : Int) (L : Int) (a : Int) (gd : Int) (w : Wt) (W0 W1 : Nat) (g : Int) (m : Int) (hn : 1 ≤ n ∧ n ≤ 6) (hL : 5 ≤ L ∧ L ≤ 40) (ha : 1 ≤ a ∧ a ≤ 50) (hw : WI n L a w) (hg : 0 ≤ g ∧ g ≤ n) (hm : 0 ≤ m ∧ m ≤ 1000) : Dv l yX4_runSluice wsX4_runSluice 6 [.ref W0, .int (iI g), .int (iI m)] D (ty3 cI cZ cJ) (cWa cI n L a gd w W0 W1) (cWa cI n L a gd (rnW n L a g m.toNat w) W0 W1) := by
  refine ct_v (plainFor_of_name (by decide)) rfl (Nat.le_of_ble_eq_true rfl) ?_
  intro p e s mI args below meth c_0 ls A hx hb hr hml hts hown hlocks hin hA hP hK hD hNW hS hl Q hQ
  have hown : s.vm.findClass RX4 = some mI.cls := hown
  have hl : lv_has ls 8 [(0, .ref W0), (1, .int (iI g)), (2, .int (iI m))] := hl
  have hin_X4 : ∀ w ∈ wsX40, w ∈ wsX4_runSluice := by decide +kernel
  have hk_min := hts (.code Lib.Math.min.name Lib.Math.min.code 2 (some .int)) (by decide +kernel)
  have hf_50 := hts (.fieldLink RX4 50 "LockStaircase$Water" "minutes" "I") (by decide +kernel)
  have hi_Math := hts (.initialized "java/lang/Math") (by decide +kernel)
  have hm_32 := hts (.methodLink RX4 32 Lib.Math.min.name) (by decide +kernel)
  have hs_min := hts (.static Lib.Math.min.name) (by decide +kernel)
  refine lv_iload_n hx hb dX4_runSluice_0 rfl (lv_at hl 2 rfl) ?_
  refine lv_istore_n (lv' := [(3, .int (iI m)), (0, .ref W0), (1, .int (iI g)), (2, .int (iI m))]) hx hb dX4_runSluice_1 rfl hl (by decide) rfl (fun ls hl => ?_)
  refine li_const hx hb dX4_runSluice_2 ?_
  refine lv_istore (lv' := [(4, .int (iI 0)), (3, .int (iI m)), (0, .ref W0), (1, .int (iI g)), (2, .int (iI m))]) hx hb dX4_runSluice_3 hl (by decide) rfl (fun ls hl => ?_)
  refine li_const hx hb dX4_runSluice_5 ?_
  refine lv_istore (lv' := [(5, .int (iI 0)), (4, .int (iI 0)), (3, .int (iI m)), (0, .ref W0), (1, .int (iI g)), (2, .int (iI m))]) hx hb dX4_runSluice_6 hl (by decide) rfl (fun ls hl => ?_)
  have loop_8 : ∀ (N : Nat) (j : Int) (lf : Int) (fl : Int) (w2 : Wt), (0 ≤ j ∧ j ≤ m) → (0 ≤ lf ∧ lf ≤ m) → (fl = 0 ∨ fl = 1) → (WI n L a w2) → (fl = 0 → rsW n L a g (m - j).toNat lf w2 = rnW n L a g m.toNat w) → (fl = 1 → w2 = rnW n L a g m.toNat w) → m - j < (N : Int) → ∀ (H : Heap) (locs : List Loc), va_P D vwCl (cWa cI n L a gd w2 W0 W1) H → va_D A (cWa cI n L a gd w2 W0 W1) → va_S A s.heap H locs → ∀ (ls : Array Slot), lv_has ls 8 [(5, .int (iI j)), (4, .int (iI fl)), (3, .int (iI lf)), (0, .ref W0), (1, .int (iI g)), (2, .int (iI m))] → W p l e (rK 6 0 0) s mI args below meth c_0 H locs 0 0 Q (F0 mI 8 ls []) := by
    intro N
    induction N with
    | zero =>
      intro j lf fl w2 hj hf hfl hw2 hq0 hq1 hN
      exact absurd hN (by omega)
    | succ N ih =>
      intro j lf fl w2 hj hf hfl hw2 hq0 hq1 hN H locs hP hD hS ls hl
      refine lv_iload hx hb dX4_runSluice_8 (lv_at hl 0 rfl) ?_
      refine lv_iload_n hx hb dX4_runSluice_10 rfl (lv_at hl 5 rfl) ?_
      refine li_icmp_ge (tgt := 75) hx hb dX4_runSluice_11 (by decide) (ib_i (by omega) (by omega)) (ib_i (by omega) (by omega)) (fun c_11 => ?_) (fun c_11 => ?_)
      · exact li_vret () hx hb hr hlocks hK hP hD hS dX4_runSluice_75 hQ (by rcases hfl with h9 | h9 <;> first | (rw [hq1 h9]) | (rw [← hq0 h9, rsW_z _ (by omega)]) | (rw [← hq0 h9, show (m - j).toNat = 0 by omega]; rfl)) trivial
      · refine lv_iload_n hx hb dX4_runSluice_14 rfl (lv_at hl 2 rfl) ?_
        refine li_if_le (tgt := 75) hx hb dX4_runSluice_15 (by decide) (ib_i (by omega) (by omega)) (fun c_15 => ?_) (fun c_15 => ?_)
        · exact li_vret () hx hb hr hlocks hK hP hD hS dX4_runSluice_75 hQ (by rcases hfl with h9 | h9 <;> first | (rw [hq1 h9]) | (rw [← hq0 h9, rsW_z _ (by omega)]) | (rw [← hq0 h9, show (m - j).toNat = 0 by omega]; rfl)) trivial
        · refine lv_iload hx hb dX4_runSluice_18 (lv_at hl 1 rfl) ?_
          refine li_if_ne (tgt := 75) hx hb dX4_runSluice_20 (by decide) (ib_i (by omega) (by omega)) (fun c_20 => ?_) (fun c_20 => ?_)
          · exact li_vret () hx hb hr hlocks hK hP hD hS dX4_runSluice_75 hQ (by rcases hfl with h9 | h9 <;> first | (rw [hq1 h9]) | (rw [← hq0 h9, rsW_z _ (by omega)]) | (rw [← hq0 h9, show (m - j).toNat = 0 by omega]; rfl)) trivial
          · refine lv_iload_n hx hb dX4_runSluice_23 rfl (lv_at hl 2 rfl) ?_
            refine li_bipush hx hb dX4_runSluice_24 (by decide) ?_
            refine li_min hx hb (hml.trans hl.1.symm) hown hm_32 hs_min hi_Math hk_min (Nat.le_of_ble_eq_true rfl) (Nat.le_of_ble_eq_true rfl) (Nat.zero_le _) (Nat.zero_le _) (ib_i (by omega) (by omega)) (by decide) dX4_runSluice_26 ?_
            refine li_top (b := mn20 lf) (by rfl) ?_
            refine lv_istore (lv' := [(6, .int (iI (mn20 lf))), (5, .int (iI j)), (4, .int (iI fl)), (3, .int (iI lf)), (0, .ref W0), (1, .int (iI g)), (2, .int (iI m))]) hx hb dX4_runSluice_29 hl (by decide) rfl (fun ls hl => ?_)
            have hmn : 0 ≤ mn20 lf ∧ mn20 lf ≤ 20 ∧ mn20 lf ≤ lf := by unfold mn20; split <;> omega
            have hfw := flW_WI hn hL ha hg (mn20 lf).toNat w2 hw2
            refine lv_aload_n hx hb dX4_runSluice_31 rfl (lv_at hl 4 rfl) ?_
            refine lv_iload_n hx hb dX4_runSluice_32 rfl (lv_at hl 5 rfl) ?_
            refine lv_iload hx hb dX4_runSluice_33 (lv_at hl 0 rfl) ?_
            refine cl_i0 (isC := [0, 1]) (isR := []) (isN := [0, 1]) (wr := []) (wn := cWa cI n L a gd ((flW n L a g (mn20 lf).toNat w2).2) W0 W1) (As := [.int (iI g), .int (iI (mn20 lf))]) (rest := []) (r := (flW n L a g (mn20 lf).toNat w2).1) (ci := 4) (q0 := 0) ⟨hx, hb, hml, hown, hts⟩ (c_X4_flow n L a gd w2 W0 W1 g (mn20 lf) (by first | assumption | omega) (by first | assumption | omega) (by first | assumption | omega) (by first | assumption | omega) (by first | assumption | omega) (by first | assumption | omega)) (cwV 2 hts gX4_runSluice_X4_flow rfl rfl rfl (by decide +kernel) ⟨Nat.le_of_ble_eq_true rfl, Nat.le_of_ble_eq_true rfl⟩) hK hNW hP hD hS hA rfl rfl rfl rfl (by decide) rfl rfl rfl rfl rfl rfl hl.1 rfl (Nat.le_of_ble_eq_true rfl) dX4_runSluice_35 ⟨Nat.zero_le _, Nat.zero_le _⟩ (fun H locs hP hD hS => ?_)
            refine lv_istore (lv' := [(7, .int (iI ((flW n L a g (mn20 lf).toNat w2).1))), (6, .int (iI (mn20 lf))), (5, .int (iI j)), (4, .int (iI fl)), (3, .int (iI lf)), (0, .ref W0), (1, .int (iI g)), (2, .int (iI m))]) hx hb dX4_runSluice_38 hl (by decide) rfl (fun ls hl => ?_)
            refine lv_iload_n hx hb dX4_runSluice_40 rfl (lv_at hl 4 rfl) ?_
            refine lv_iload hx hb dX4_runSluice_41 (lv_at hl 0 rfl) ?_
            refine li_sub hx hb dX4_runSluice_43 ?_
            refine lv_istore_n (lv' := [(3, .int (iI (lf - ((flW n L a g (mn20 lf).toNat w2).1)))), (7, .int (iI ((flW n L a g (mn20 lf).toNat w2).1))), (6, .int (iI (mn20 lf))), (5, .int (iI j)), (4, .int (iI fl)), (0, .ref W0), (1, .int (iI g)), (2, .int (iI m))]) hx hb dX4_runSluice_44 rfl hl (by decide) rfl (fun ls hl => ?_)
            refine lv_iload hx hb dX4_runSluice_45 (lv_at hl 1 rfl) ?_
            refine lv_iload hx hb dX4_runSluice_47 (lv_at hl 2 rfl) ?_
            refine li_icmp_ge (tgt := 56) hx hb dX4_runSluice_49 (by decide) (ib_i (by omega) (by omega)) (ib_i (by omega) (by omega)) (fun c_49 => ?_) (fun c_49 => ?_)
            · refine li_const hx hb dX4_runSluice_56 ?_
              refine lv_istore (lv' := [(4, .int (iI 0)), (3, .int (iI (lf - ((flW n L a g (mn20 lf).toNat w2).1)))), (7, .int (iI ((flW n L a g (mn20 lf).toNat w2).1))), (6, .int (iI (mn20 lf))), (5, .int (iI j)), (0, .ref W0), (1, .int (iI g)), (2, .int (iI m))]) hx hb dX4_runSluice_57 hl (by decide) rfl (fun ls hl => ?_)
              refine lv_aload_n hx hb dX4_runSluice_59 rfl (lv_at hl 5 rfl) ?_
              refine lv_dup hx hb dX4_runSluice_60 rfl ?_
              refine li_get (ci := 4) (v := .int (iI (((flW n L a g (mn20 lf).toNat w2).2).2.2.1))) (C := RX4) (T := TX4) (N := 8) (q0 := 0) (k := 7) hx hb hts hin_X4 hown hK hP rfl rfl (by decide) hf_50 rfl rfl dX4_runSluice_61 ?_
              refine li_const hx hb dX4_runSluice_64 ?_
              refine li_add hx hb dX4_runSluice_65 ?_
              refine li_put (ci := 4) (v := .int (iI ((((flW n L a g (mn20 lf).toNat w2).2).2.2.1) + 1))) (ty := .int) (C := RX4) (T := TX4) (N := 8) (q0 := 0) (k := 7) (w2 := cWa cI n L a gd (((flW n L a g (mn20 lf).toNat w2).2).1, ((flW n L a g (mn20 lf).toNat w2).2).2.1, (((flW n L a g (mn20 lf).toNat w2).2).2.2.1) + 1, ((flW n L a g (mn20 lf).toNat w2).2).2.2.2) W0 W1) hx hb hts hin_X4 tyX4_ok nmX4 hown hK hP hD hS rfl rfl (by decide) hf_50 rfl rfl (by decide +kernel) rfl rfl (Nat.le_of_ble_eq_true rfl) dX4_runSluice_66 rfl (fun H locs hP hD hS => ?_)
              refine li_inc (j := 4) (lv' := [(5, .int (iI (j + 1))), (4, .int (iI 0)), (3, .int (iI (lf - ((flW n L a g (mn20 lf).toNat w2).1)))), (7, .int (iI ((flW n L a g (mn20 lf).toNat w2).1))), (6, .int (iI (mn20 lf))), (0, .ref W0), (1, .int (iI g)), (2, .int (iI m))]) hx hb dX4_runSluice_69 hl rfl (by decide) rfl (fun ls hl => ?_)
              refine lv_goto (tgt := 8) hx hb dX4_runSluice_72 (by decide) ?_
              have he9 : (m - j).toNat = (m - (j + 1)).toNat + 1 := by omega
              exact ih (j + 1) (lf - ((flW n L a g (mn20 lf).toNat w2).1)) 0 (((flW n L a g (mn20 lf).toNat w2).2).1, ((flW n L a g (mn20 lf).toNat w2).2).2.1, (((flW n L a g (mn20 lf).toNat w2).2).2.2.1) + 1, ((flW n L a g (mn20 lf).toNat w2).2).2.2.2) (by omega) (by have hfw2 := hfw.2; unfold mn20 at *; omega) (by first | exact Or.inl rfl | exact Or.inr rfl) (by exact tickW_WI (hfw.1)) (by intro h; first | exact absurd h (by decide) | (have h9 := hq0 (by omega); rw [he9, rsW_b _ (by omega) (by exact Int.not_lt.mpr c_49)] at h9; exact h9)) (by intro h; first | exact absurd h (by decide) | (have h9 := hq0 (by omega); rw [he9, rsW_a _ (by omega) (by exact c_49)] at h9; exact h9)) (by omega) _ _ hP hD hS _ (lv_sub hl [0, 1, 2, 5, 6, 7] rfl)
            · refine li_const hx hb dX4_runSluice_52 ?_
              refine lv_goto (tgt := 57) hx hb dX4_runSluice_53 (by decide) ?_
              refine lv_istore (lv' := [(4, .int (iI 1)), (3, .int (iI (lf - ((flW n L a g (mn20 lf).toNat w2).1)))), (7, .int (iI ((flW n L a g (mn20 lf).toNat w2).1))), (6, .int (iI (mn20 lf))), (5, .int (iI j)), (0, .ref W0), (1, .int (iI g)), (2, .int (iI m))]) hx hb dX4_runSluice_57 hl (by decide) rfl (fun ls hl => ?_)
              refine lv_aload_n hx hb dX4_runSluice_59 rfl (lv_at hl 5 rfl) ?_
              refine lv_dup hx hb dX4_runSluice_60 rfl ?_
              refine li_get (ci := 4) (v := .int (iI (((flW n L a g (mn20 lf).toNat w2).2).2.2.1))) (C := RX4) (T := TX4) (N := 8) (q0 := 0) (k := 7) hx hb hts hin_X4 hown hK hP rfl rfl (by decide) hf_50 rfl rfl dX4_runSluice_61 ?_
              refine li_const hx hb dX4_runSluice_64 ?_
              refine li_add hx hb dX4_runSluice_65 ?_
              refine li_put (ci := 4) (v := .int (iI ((((flW n L a g (mn20 lf).toNat w2).2).2.2.1) + 1))) (ty := .int) (C := RX4) (T := TX4) (N := 8) (q0 := 0) (k := 7) (w2 := cWa cI n L a gd (((flW n L a g (mn20 lf).toNat w2).2).1, ((flW n L a g (mn20 lf).toNat w2).2).2.1, (((flW n L a g (mn20 lf).toNat w2).2).2.2.1) + 1, ((flW n L a g (mn20 lf).toNat w2).2).2.2.2) W0 W1) hx hb hts hin_X4 tyX4_ok nmX4 hown hK hP hD hS rfl rfl (by decide) hf_50 rfl rfl (by decide +kernel) rfl rfl (Nat.le_of_ble_eq_true rfl) dX4_runSluice_66 rfl (fun H locs hP hD hS => ?_)
              refine li_inc (j := 4) (lv' := [(5, .int (iI (j + 1))), (4, .int (iI 1)), (3, .int (iI (lf - ((flW n L a g (mn20 lf).toNat w2).1)))), (7, .int (iI ((flW n L a g (mn20 lf).toNat w2).1))), (6, .int (iI (mn20 lf))), (0, .ref W0), (1, .int (iI g)), (2, .int (iI m))]) hx hb dX4_runSluice_69 hl rfl (by decide) rfl (fun ls hl => ?_)
              refine lv_goto (tgt := 8) hx hb dX4_runSluice_72 (by decide) ?_
              have he9 : (m - j).toNat = (m - (j + 1)).toNat + 1 := by omega
              exact ih (j + 1) (lf - ((flW n L a g (mn20 lf).toNat w2).1)) 1 (((flW n L a g (mn20 lf).toNat w2).2).1, ((flW n L a g (mn20 lf).toNat w2).2).2.1, (((flW n L a g (mn20 lf).toNat w2).2).2.2.1) + 1, ((flW n L a g (mn20 lf).toNat w2).2).2.2.2) (by omega) (by have hfw2 := hfw.2; unfold mn20 at *; omega) (by first | exact Or.inl rfl | exact Or.inr rfl) (by exact tickW_WI (hfw.1)) (by intro h; first | exact absurd h (by decide) | (have h9 := hq0 (by omega); rw [he9, rsW_b _ (by omega) (by exact Int.not_lt.mpr c_49)] at h9; exact h9)) (by intro h; first | exact absurd h (by decide) | (have h9 := hq0 (by omega); rw [he9, rsW_a _ (by omega) (by exact c_49)] at h9; exact h9)) (by omega) _ _ hP hD hS _ (lv_sub hl [0, 1, 2, 5, 6, 7] rfl)
  exact loop_8 (((m - 0) : Int) + 1).toNat 0 m 0 w (by omega) (by omega) (by exact Or.inl rfl) (by exact hw) (by intro _; rw [Int.sub_zero]; have h9 := rsW_rn n L a g m.toNat m.toNat w (Nat.le_refl _); rw [Int.toNat_of_nonneg hm.1] at h9; exact h9) (by intro h; exact absurd h (by decide)) (by omega) _ _ hP hD hS _ (lv_sub hl [0, 1, 2, 3, 4, 5] rfl)

set_option maxRecDepth 100000 in
set_option maxHeartbeats 4000000 in
theorem cr_X4_lower {l : Launch} {D : va_G} {cI cZ cJ : ClassId} : ∀ (d : Nat) (n : Int) (L : Int) (a : Int) (gd : Int) (w : Wt) (W0 W1 : Nat) (t : Int) (c : Int) (tg : Int) (hn : 1 ≤ n ∧ n ≤ 6) (hL : 5 ≤ L ∧ L ≤ 40) (ha : 1 ≤ a ∧ a ≤ 50) (hw : WI n L a w) (hc : 0 ≤ c ∧ c < n) (ht : 0 ≤ t ∧ t ≤ 100) (htg : tg = c * L + t) (hd : c.toNat = d), Dv l yX4_lower wsX4_lower (8 + d) [.ref W0, .int (iI c), .int (iI tg)] D (ty3 cI cZ cJ) (cWa cI n L a gd w W0 W1) (cWa cI n L a gd (loM n L a c.toNat t w) W0 W1) := by
  intro d
  induction d using Nat.strongRecOn with
  | ind d ihd =>
  intro n L a gd w W0 W1 t c tg hn hL ha hw hc ht htg hd
  refine ct_v (plainFor_of_name (by decide)) rfl (Nat.le_of_ble_eq_true rfl) ?_
  intro p e s mI args below meth c_0 ls A hx hb hr hml hts hown hlocks hin hA hP hK hD hNW hS hl Q hQ
  have hown : s.vm.findClass RX4 = some mI.cls := hown
  have hl : lv_has ls 4 [(0, .ref W0), (1, .int (iI c)), (2, .int (iI tg))] := hl
  have hin_X4 : ∀ w ∈ wsX40, w ∈ wsX4_lower := by decide +kernel
  have hc_88 := hts (.constant RX4 88 (100000)) (by decide +kernel)
  have hf_22 := hts (.fieldLink RX4 22 "LockStaircase$Water" "levels" "[I") (by decide +kernel)
  refine lv_aload_n hx hb dX4_lower_0 rfl (lv_at hl 0 rfl) ?_
  refine lv_ifnull hx hb dX4_lower_1 ?_
  refine lv_iload_n hx hb dX4_lower_4 rfl (lv_at hl 1 rfl) ?_
  refine li_if_lt_f (tgt := 17) hx hb dX4_lower_5 (by decide) (ib_i (by omega) (by omega)) (by omega) ?_
  refine lv_iload_n hx hb dX4_lower_8 rfl (lv_at hl 1 rfl) ?_
  refine lv_aload_n hx hb dX4_lower_9 rfl (lv_at hl 0 rfl) ?_
  refine li_get (ci := 4) (v := .ref W1) (C := RX4) (T := TX4) (N := 8) (q0 := 0) (k := 2) hx hb hts hin_X4 hown hK hP rfl rfl (by decide) hf_22 rfl rfl dX4_lower_10 ?_
  refine li_alen (q0 := 1) (t0 := 0) (z := n) hx hb hK hP rfl rfl (by omega) dX4_lower_13 ?_
  refine li_icmp_lt_t (tgt := 18) hx hb dX4_lower_14 (by decide) (ib_i (by omega) (by omega)) (ib_i (by omega) (by omega)) (by omega) ?_
  refine li_const hx hb dX4_lower_18 ?_
  refine lv_istore_n (lv' := [(3, .int (iI 0)), (0, .ref W0), (1, .int (iI c)), (2, .int (iI tg))]) hx hb dX4_lower_19 rfl hl (by decide) rfl (fun ls hl => ?_)
  have loop_20 : ∀ (N : Nat) (r : Int) (w2 : Wt), (0 ≤ r ∧ r ≤ 100000) → (WI n L a w2) → (itW (loS n L a (loM n L a (c - 1).toNat 0) c t) c t (100000 - r).toNat w2 = loM n L a c.toNat t w) → 100000 - r < (N : Int) → ∀ (H : Heap) (locs : List Loc), va_P D vwCl (cWa cI n L a gd w2 W0 W1) H → va_D A (cWa cI n L a gd w2 W0 W1) → va_S A s.heap H locs → ∀ (ls : Array Slot), lv_has ls 4 [(3, .int (iI r)), (0, .ref W0), (1, .int (iI c)), (2, .int (iI tg))] → W p l e (rK (8 + d) 0 0) s mI args below meth c_0 H locs 0 0 Q (F0 mI 20 ls []) := by
    intro N
    induction N with
    | zero =>
      intro r w2 hrr hw2 hq hN
      exact absurd hN (by omega)
    | succ N ih =>
      intro r w2 hrr hw2 hq hN H locs hP hD hS ls hl
      have e1 := lvA_c (L := L) (a := a) (w := w2) hc.1 hc.2
      have u1 := hw2.2 c hc.1 hc.2
      have m1 := mu_b (g := c) (by omega) (by omega) hL
      have m2 := mu_m c L
      refine lv_iload_n hx hb dX4_lower_20 rfl (lv_at hl 0 rfl) ?_
      refine lv_ldc (v := 100000) hx hb hown hc_88 dX4_lower_21 ?_
      refine li_topI (b := 100000) (by decide) ?_
      refine li_icmp_ge (tgt := 88) hx hb dX4_lower_23 (by decide) (ib_i (by omega) (by omega)) (by decide) (fun c_23 => ?_) (fun c_23 => ?_)
      · exact li_vret () hx hb hr hlocks hK hP hD hS dX4_lower_88 hQ (by first | (rw [itW_f _ (by omega)] at hq; rw [hq]) | (rw [show (100000 - r).toNat = 0 by omega, itW_0] at hq; rw [hq])) trivial
      · refine lv_aload_n hx hb dX4_lower_26 rfl (lv_at hl 1 rfl) ?_
        refine lv_iload_n hx hb dX4_lower_27 rfl (lv_at hl 2 rfl) ?_
        refine cl_i0 (isC := [0, 1]) (isR := []) (isN := [0, 1]) (wr := []) (wn := cWa cI n L a gd w2 W0 W1) (As := [.int (iI c)]) (rest := []) (r := lvA n L a w2 c) (ci := 4) (q0 := 0) ⟨hx, hb, hml, hown, hts⟩ (c_X4_levelAt n L a gd w2 W0 W1 c (by first | assumption | omega) (by first | assumption | omega) (by first | assumption | omega) (by first | assumption | omega) (by first | assumption | omega)) (cwV 1 hts gX4_lower_X4_levelAt rfl rfl rfl (by decide +kernel) ⟨by dsimp only [rK]; omega, by dsimp only [rK]; omega⟩) hK hNW hP hD hS hA rfl rfl rfl rfl (by decide) rfl rfl rfl rfl rfl rfl hl.1 rfl (Nat.le_of_ble_eq_true rfl) dX4_lower_28 ⟨Nat.zero_le _, Nat.zero_le _⟩ (fun H locs hP hD hS => ?_)
        refine lv_iload_n hx hb dX4_lower_31 rfl (lv_at hl 3 rfl) ?_
        refine li_icmp_le (tgt := 88) hx hb dX4_lower_32 (by decide) (ib_i (by omega) (by omega)) (ib_i (by omega) (by omega)) (fun c_32 => ?_) (fun c_32 => ?_)
        · exact li_vret () hx hb hr hlocks hK hP hD hS dX4_lower_88 hQ (by first | (rw [itW_f _ (by omega)] at hq; rw [hq]) | (rw [show (100000 - r).toNat = 0 by omega, itW_0] at hq; rw [hq])) trivial
        · refine lv_iload_n hx hb dX4_lower_35 rfl (lv_at hl 2 rfl) ?_
          refine li_if_le (tgt := 70) hx hb dX4_lower_36 (by decide) (ib_i (by omega) (by omega)) (fun c_36 => ?_) (fun c_36 => ?_)
          · have hw3 : WI n L a w2 := by first | exact hw2 | exact loM_WI hn hL ha _ _ _ (by omega) hw2
            have e3 := lvA_c (L := L) (a := a) (w := w2) hc.1 hc.2
            have u3 := hw3.2 c hc.1 hc.2
            refine lv_aload_n hx hb dX4_lower_70 rfl (lv_at hl 1 rfl) ?_
            refine lv_iload_n hx hb dX4_lower_71 rfl (lv_at hl 2 rfl) ?_
            refine lv_aload_n hx hb dX4_lower_72 rfl (lv_at hl 1 rfl) ?_
            refine lv_iload_n hx hb dX4_lower_73 rfl (lv_at hl 2 rfl) ?_
            refine cl_i0 (isC := [0, 1]) (isR := []) (isN := [0, 1]) (wr := []) (wn := cWa cI n L a gd w2 W0 W1) (As := [.int (iI c)]) (rest := [.int (iI c), .ref W0]) (r := lvA n L a w2 c) (ci := 4) (q0 := 0) ⟨hx, hb, hml, hown, hts⟩ (c_X4_levelAt n L a gd w2 W0 W1 c (by first | assumption | omega) (by first | assumption | omega) (by first | assumption | omega) (by first | assumption | omega) (by first | assumption | omega)) (cwV 1 hts gX4_lower_X4_levelAt rfl rfl rfl (by decide +kernel) ⟨by dsimp only [rK]; omega, by dsimp only [rK]; omega⟩) hK hNW hP hD hS hA rfl rfl rfl rfl (by decide) rfl rfl rfl rfl rfl rfl hl.1 rfl (Nat.le_of_ble_eq_true rfl) dX4_lower_74 ⟨Nat.zero_le _, Nat.zero_le _⟩ (fun H locs hP hD hS => ?_)
            refine lv_iload_n hx hb dX4_lower_77 rfl (lv_at hl 3 rfl) ?_
            refine li_sub hx hb dX4_lower_78 ?_
            refine li_top (b := w2.2.2.2 c - t) (by omega) ?_
            refine cl_v0 (isC := [0, 1]) (isR := []) (isN := [0, 1]) (wr := []) (wn := cWa cI n L a gd (rnW n L a c (w2.2.2.2 c - t).toNat w2) W0 W1) (As := [.int (iI c), .int (iI (w2.2.2.2 c - t))]) (rest := []) (ci := 4) (q0 := 0) ⟨hx, hb, hml, hown, hts⟩ (c_X4_runSluice n L a gd w2 W0 W1 c (w2.2.2.2 c - t) (by first | assumption | omega) (by first | assumption | omega) (by first | assumption | omega) (by first | assumption | omega) (by first | assumption | omega) (by first | omega | (have u9 := loM_keep (n := n) (L := L) (a := a) (c - 1) c 0 w2 (by omega) (by omega); omega))) (cwV 2 hts gX4_lower_X4_runSluice rfl rfl rfl (by decide +kernel) ⟨by dsimp only [rK]; omega, by dsimp only [rK]; omega⟩) hK hNW hP hD hS hA rfl rfl rfl rfl (by decide) rfl rfl rfl rfl rfl rfl hl.1 rfl (Nat.le_of_ble_eq_true rfl) dX4_lower_79 ⟨Nat.zero_le _, Nat.zero_le _⟩ (fun H locs hP hD hS => ?_)
            refine li_inc (j := 0) (lv' := [(3, .int (iI (r + 1))), (0, .ref W0), (1, .int (iI c)), (2, .int (iI tg))]) hx hb dX4_lower_82 hl rfl (by decide) rfl (fun ls hl => ?_)
            refine lv_goto (tgt := 20) hx hb dX4_lower_85 (by decide) ?_
            have he9 : (100000 - r).toNat = (100000 - (r + 1)).toNat + 1 := by omega
            exact ih (r + 1) (rnW n L a c (w2.2.2.2 c - t).toNat w2) (by omega) (by exact rnW_WI hn hL ha (by omega) _ hw3) (by rw [he9, itW_t _ (by omega)] at hq; first | (rw [loS_a (by omega)] at hq; exact hq) | (rw [loS_b (by omega)] at hq; exact hq)) (by omega) _ _ hP hD hS _ (lv_sub hl [0, 1, 2, 3] rfl)
          · have e2 := lvA_c (L := L) (a := a) (w := w2) (show 0 ≤ c - 1 by omega) (show c - 1 < n by omega)
            have u2 := hw2.2 (c - 1) (by omega) (by omega)
            refine lv_aload_n hx hb dX4_lower_39 rfl (lv_at hl 1 rfl) ?_
            refine lv_iload_n hx hb dX4_lower_40 rfl (lv_at hl 2 rfl) ?_
            refine li_const hx hb dX4_lower_41 ?_
            refine li_sub hx hb dX4_lower_42 ?_
            refine cl_i0 (isC := [0, 1]) (isR := []) (isN := [0, 1]) (wr := []) (wn := cWa cI n L a gd w2 W0 W1) (As := [.int (iI (c - 1))]) (rest := []) (r := lvA n L a w2 (c - 1)) (ci := 4) (q0 := 0) ⟨hx, hb, hml, hown, hts⟩ (c_X4_levelAt n L a gd w2 W0 W1 (c - 1) (by first | assumption | omega) (by first | assumption | omega) (by first | assumption | omega) (by first | assumption | omega) (by first | assumption | omega)) (cwV 1 hts gX4_lower_X4_levelAt rfl rfl rfl (by decide +kernel) ⟨by dsimp only [rK]; omega, by dsimp only [rK]; omega⟩) hK hNW hP hD hS hA rfl rfl rfl rfl (by decide) rfl rfl rfl rfl rfl rfl hl.1 rfl (Nat.le_of_ble_eq_true rfl) dX4_lower_43 ⟨Nat.zero_le _, Nat.zero_le _⟩ (fun H locs hP hD hS => ?_)
            refine lv_aload_n hx hb dX4_lower_46 rfl (lv_at hl 1 rfl) ?_
            refine lv_iload_n hx hb dX4_lower_47 rfl (lv_at hl 2 rfl) ?_
            refine li_const hx hb dX4_lower_48 ?_
            refine li_sub hx hb dX4_lower_49 ?_
            refine cl_i0 (isC := [0, 1]) (isR := []) (isN := [0, 1]) (wr := []) (wn := cWa cI n L a gd w2 W0 W1) (As := [.int (iI (c - 1))]) (rest := [.int (iI (lvA n L a w2 (c - 1)))]) (r := (c - 1) * L + L) (ci := 4) (q0 := 0) ⟨hx, hb, hml, hown, hts⟩ (c_X4_topOf n L a gd w2 W0 W1 (c - 1) ) (cwV 1 hts gX4_lower_X4_topOf rfl rfl rfl (by decide +kernel) ⟨by dsimp only [rK]; omega, by dsimp only [rK]; omega⟩) hK hNW hP hD hS hA rfl rfl rfl rfl (by decide) rfl rfl rfl rfl rfl rfl hl.1 rfl (Nat.le_of_ble_eq_true rfl) dX4_lower_50 ⟨Nat.zero_le _, Nat.zero_le _⟩ (fun H locs hP hD hS => ?_)
            refine li_icmp_lt (tgt := 70) hx hb dX4_lower_53 (by decide) (ib_i (by omega) (by omega)) (ib_i (by omega) (by omega)) (fun c_53 => ?_) (fun c_53 => ?_)
            · have hw3 : WI n L a w2 := by first | exact hw2 | exact loM_WI hn hL ha _ _ _ (by omega) hw2
              have e3 := lvA_c (L := L) (a := a) (w := w2) hc.1 hc.2
              have u3 := hw3.2 c hc.1 hc.2
              refine lv_aload_n hx hb dX4_lower_70 rfl (lv_at hl 1 rfl) ?_
              refine lv_iload_n hx hb dX4_lower_71 rfl (lv_at hl 2 rfl) ?_
              refine lv_aload_n hx hb dX4_lower_72 rfl (lv_at hl 1 rfl) ?_
              refine lv_iload_n hx hb dX4_lower_73 rfl (lv_at hl 2 rfl) ?_
              refine cl_i0 (isC := [0, 1]) (isR := []) (isN := [0, 1]) (wr := []) (wn := cWa cI n L a gd w2 W0 W1) (As := [.int (iI c)]) (rest := [.int (iI c), .ref W0]) (r := lvA n L a w2 c) (ci := 4) (q0 := 0) ⟨hx, hb, hml, hown, hts⟩ (c_X4_levelAt n L a gd w2 W0 W1 c (by first | assumption | omega) (by first | assumption | omega) (by first | assumption | omega) (by first | assumption | omega) (by first | assumption | omega)) (cwV 1 hts gX4_lower_X4_levelAt rfl rfl rfl (by decide +kernel) ⟨by dsimp only [rK]; omega, by dsimp only [rK]; omega⟩) hK hNW hP hD hS hA rfl rfl rfl rfl (by decide) rfl rfl rfl rfl rfl rfl hl.1 rfl (Nat.le_of_ble_eq_true rfl) dX4_lower_74 ⟨Nat.zero_le _, Nat.zero_le _⟩ (fun H locs hP hD hS => ?_)
              refine lv_iload_n hx hb dX4_lower_77 rfl (lv_at hl 3 rfl) ?_
              refine li_sub hx hb dX4_lower_78 ?_
              refine li_top (b := w2.2.2.2 c - t) (by omega) ?_
              refine cl_v0 (isC := [0, 1]) (isR := []) (isN := [0, 1]) (wr := []) (wn := cWa cI n L a gd (rnW n L a c (w2.2.2.2 c - t).toNat w2) W0 W1) (As := [.int (iI c), .int (iI (w2.2.2.2 c - t))]) (rest := []) (ci := 4) (q0 := 0) ⟨hx, hb, hml, hown, hts⟩ (c_X4_runSluice n L a gd w2 W0 W1 c (w2.2.2.2 c - t) (by first | assumption | omega) (by first | assumption | omega) (by first | assumption | omega) (by first | assumption | omega) (by first | assumption | omega) (by first | omega | (have u9 := loM_keep (n := n) (L := L) (a := a) (c - 1) c 0 w2 (by omega) (by omega); omega))) (cwV 2 hts gX4_lower_X4_runSluice rfl rfl rfl (by decide +kernel) ⟨by dsimp only [rK]; omega, by dsimp only [rK]; omega⟩) hK hNW hP hD hS hA rfl rfl rfl rfl (by decide) rfl rfl rfl rfl rfl rfl hl.1 rfl (Nat.le_of_ble_eq_true rfl) dX4_lower_79 ⟨Nat.zero_le _, Nat.zero_le _⟩ (fun H locs hP hD hS => ?_)
              refine li_inc (j := 0) (lv' := [(3, .int (iI (r + 1))), (0, .ref W0), (1, .int (iI c)), (2, .int (iI tg))]) hx hb dX4_lower_82 hl rfl (by decide) rfl (fun ls hl => ?_)
              refine lv_goto (tgt := 20) hx hb dX4_lower_85 (by decide) ?_
              have he9 : (100000 - r).toNat = (100000 - (r + 1)).toNat + 1 := by omega
              exact ih (r + 1) (rnW n L a c (w2.2.2.2 c - t).toNat w2) (by omega) (by exact rnW_WI hn hL ha (by omega) _ hw3) (by rw [he9, itW_t _ (by omega)] at hq; first | (rw [loS_a (by omega)] at hq; exact hq) | (rw [loS_b (by omega)] at hq; exact hq)) (by omega) _ _ hP hD hS _ (lv_sub hl [0, 1, 2, 3] rfl)
            · refine lv_aload_n hx hb dX4_lower_56 rfl (lv_at hl 1 rfl) ?_
              refine lv_iload_n hx hb dX4_lower_57 rfl (lv_at hl 2 rfl) ?_
              refine li_const hx hb dX4_lower_58 ?_
              refine li_sub hx hb dX4_lower_59 ?_
              refine lv_aload_n hx hb dX4_lower_60 rfl (lv_at hl 1 rfl) ?_
              refine lv_iload_n hx hb dX4_lower_61 rfl (lv_at hl 2 rfl) ?_
              refine li_const hx hb dX4_lower_62 ?_
              refine li_sub hx hb dX4_lower_63 ?_
              refine cl_i0 (isC := [0, 1]) (isR := []) (isN := [0, 1]) (wr := []) (wn := cWa cI n L a gd w2 W0 W1) (As := [.int (iI (c - 1))]) (rest := [.int (iI (c - 1)), .ref W0]) (r := (c - 1) * L) (ci := 4) (q0 := 0) ⟨hx, hb, hml, hown, hts⟩ (c_X4_floorOf n L a gd w2 W0 W1 (c - 1) ) (cwV 1 hts gX4_lower_X4_floorOf rfl rfl rfl (by decide +kernel) ⟨by dsimp only [rK]; omega, by dsimp only [rK]; omega⟩) hK hNW hP hD hS hA rfl rfl rfl rfl (by decide) rfl rfl rfl rfl rfl rfl hl.1 rfl (Nat.le_of_ble_eq_true rfl) dX4_lower_64 ⟨Nat.zero_le _, Nat.zero_le _⟩ (fun H locs hP hD hS => ?_)
              refine cs_v0 (isC := [0, 1]) (isR := []) (isN := [0, 1]) (wr := []) (wn := cWa cI n L a gd (loM n L a (c - 1).toNat 0 w2) W0 W1) (As := [.ref W0, .int (iI (c - 1)), .int (iI ((c - 1) * L))]) (rest := []) ⟨hx, hb, hml, hown, hts⟩ (ihd ((c - 1).toNat) (by omega) n L a gd w2 W0 W1 0 (c - 1) ((c - 1) * L) (by first | assumption | omega) (by first | assumption | omega) (by first | assumption | omega) (by first | assumption | omega) (by first | assumption | omega) (by first | assumption | omega) (by omega) rfl) (va_cwS 3 hts gX4_lower_X4_lower rfl rfl rfl (by decide +kernel) ⟨by dsimp only [rK]; omega, by dsimp only [rK]; omega⟩) hK hNW hP hD hS hA rfl rfl rfl rfl (by decide) rfl rfl rfl hl.1 rfl (Nat.le_of_ble_eq_true rfl) dX4_lower_67 ⟨Nat.zero_le _, Nat.zero_le _⟩ (fun H locs hP hD hS => ?_)
              have hw3 : WI n L a (loM n L a (c - 1).toNat 0 w2) := by first | exact hw2 | exact loM_WI hn hL ha _ _ _ (by omega) hw2
              have e3 := lvA_c (L := L) (a := a) (w := (loM n L a (c - 1).toNat 0 w2)) hc.1 hc.2
              have u3 := hw3.2 c hc.1 hc.2
              refine lv_aload_n hx hb dX4_lower_70 rfl (lv_at hl 1 rfl) ?_
              refine lv_iload_n hx hb dX4_lower_71 rfl (lv_at hl 2 rfl) ?_
              refine lv_aload_n hx hb dX4_lower_72 rfl (lv_at hl 1 rfl) ?_
              refine lv_iload_n hx hb dX4_lower_73 rfl (lv_at hl 2 rfl) ?_
              refine cl_i0 (isC := [0, 1]) (isR := []) (isN := [0, 1]) (wr := []) (wn := cWa cI n L a gd (loM n L a (c - 1).toNat 0 w2) W0 W1) (As := [.int (iI c)]) (rest := [.int (iI c), .ref W0]) (r := lvA n L a (loM n L a (c - 1).toNat 0 w2) c) (ci := 4) (q0 := 0) ⟨hx, hb, hml, hown, hts⟩ (c_X4_levelAt n L a gd (loM n L a (c - 1).toNat 0 w2) W0 W1 c (by first | assumption | omega) (by first | assumption | omega) (by first | assumption | omega) (by first | assumption | omega) (by first | assumption | omega)) (cwV 1 hts gX4_lower_X4_levelAt rfl rfl rfl (by decide +kernel) ⟨by dsimp only [rK]; omega, by dsimp only [rK]; omega⟩) hK hNW hP hD hS hA rfl rfl rfl rfl (by decide) rfl rfl rfl rfl rfl rfl hl.1 rfl (Nat.le_of_ble_eq_true rfl) dX4_lower_74 ⟨Nat.zero_le _, Nat.zero_le _⟩ (fun H locs hP hD hS => ?_)
              refine lv_iload_n hx hb dX4_lower_77 rfl (lv_at hl 3 rfl) ?_
              refine li_sub hx hb dX4_lower_78 ?_
              refine li_top (b := (loM n L a (c - 1).toNat 0 w2).2.2.2 c - t) (by omega) ?_
              refine cl_v0 (isC := [0, 1]) (isR := []) (isN := [0, 1]) (wr := []) (wn := cWa cI n L a gd (rnW n L a c ((loM n L a (c - 1).toNat 0 w2).2.2.2 c - t).toNat (loM n L a (c - 1).toNat 0 w2)) W0 W1) (As := [.int (iI c), .int (iI ((loM n L a (c - 1).toNat 0 w2).2.2.2 c - t))]) (rest := []) (ci := 4) (q0 := 0) ⟨hx, hb, hml, hown, hts⟩ (c_X4_runSluice n L a gd (loM n L a (c - 1).toNat 0 w2) W0 W1 c ((loM n L a (c - 1).toNat 0 w2).2.2.2 c - t) (by first | assumption | omega) (by first | assumption | omega) (by first | assumption | omega) (by first | assumption | omega) (by first | assumption | omega) (by first | omega | (have u9 := loM_keep (n := n) (L := L) (a := a) (c - 1) c 0 w2 (by omega) (by omega); omega))) (cwV 2 hts gX4_lower_X4_runSluice rfl rfl rfl (by decide +kernel) ⟨by dsimp only [rK]; omega, by dsimp only [rK]; omega⟩) hK hNW hP hD hS hA rfl rfl rfl rfl (by decide) rfl rfl rfl rfl rfl rfl hl.1 rfl (Nat.le_of_ble_eq_true rfl) dX4_lower_79 ⟨Nat.zero_le _, Nat.zero_le _⟩ (fun H locs hP hD hS => ?_)
              refine li_inc (j := 0) (lv' := [(3, .int (iI (r + 1))), (0, .ref W0), (1, .int (iI c)), (2, .int (iI tg))]) hx hb dX4_lower_82 hl rfl (by decide) rfl (fun ls hl => ?_)
              refine lv_goto (tgt := 20) hx hb dX4_lower_85 (by decide) ?_
              have he9 : (100000 - r).toNat = (100000 - (r + 1)).toNat + 1 := by omega
              exact ih (r + 1) (rnW n L a c ((loM n L a (c - 1).toNat 0 w2).2.2.2 c - t).toNat (loM n L a (c - 1).toNat 0 w2)) (by omega) (by exact rnW_WI hn hL ha (by omega) _ hw3) (by rw [he9, itW_t _ (by omega)] at hq; first | (rw [loS_a (by omega)] at hq; exact hq) | (rw [loS_b (by omega)] at hq; exact hq)) (by omega) _ _ hP hD hS _ (lv_sub hl [0, 1, 2, 3] rfl)
  exact loop_20 (((100000 - 0) : Int) + 1).toNat 0 w (by omega) (by exact hw) (by rw [loM_eq n L a hc.1 t w]; rfl) (by omega) _ _ hP hD hS _ (lv_sub hl [0, 1, 2, 3] rfl)
