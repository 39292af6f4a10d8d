section LOOP
variable {p : Program} {l : Launch} {e : Env} {s : State} {m : MethodId} {below : List Frame} {meth : Method} {c : Code} {H : Heap} {locs : List Loc} {cells slots : Nat} {Q : State → Prop} {ls : Array Slot} {D : va_G} {A : Nat → Prop} {cI cZ cJ : ClassId} {b N : Nat} {xs : Nat → Int32} {i : Int} {ad : Nat → Nat} {d0 : Drawn} {n L a : Int}
variable {w : Wt} {op : Int → Int} {tn : Int → Int} {cnt : Int} {ln : Int → Int} {dr : Int → Int} {pl : Int → Int} {rp : Rt} {wt : Wt} {gdt : Int} {opt : Int → Int} {tnt : Int → Int} {cntt : Int} {lnt : Int → Int} {drt : Int → Int} {plt : Int → Int} {rpt : Rt} {rn : Int} {sp : Int} {th : Int} {en : Int} {kd : Int → Int} {nb : Int → Int} {as : Int → Int} {ov : Nat → Int64}
theorem dc_chambers (h : LH p l e s m below meth c Q D A cI cZ cJ b N xs ad n L a i cells slots d0 H locs ls w op tn cnt ln dr pl rp wt gdt opt tnt cntt lnt drt plt rpt rn sp th en kd nb as ov) : W p l e room_1 (s.setDrawn d0) m #[Value.ref b] below meth c H locs cells slots Q (F0 m 212 ls []) := by
  exact lc_chambers_ok h

theorem dc_levelOf (h : LH p l e s m below meth c Q D A cI cZ cJ b N xs ad n L a i cells slots d0 H locs ls w op tn cnt ln dr pl rp wt gdt opt tnt cntt lnt drt plt rpt rn sp th en kd nb as ov) : W p l e room_1 (s.setDrawn d0) m #[Value.ref b] below meth c H locs cells slots Q (F0 m 225 ls []) := by
  by_cases hv : 0 ≤ (sx xs (i + 1)) ∧ (sx xs (i + 1)) ≤ n - 1
  · exact lc_levelOf_ok h hv
  · exact lc_levelOf_no h hv

theorem dc_poundLevel (h : LH p l e s m below meth c Q D A cI cZ cJ b N xs ad n L a i cells slots d0 H locs ls w op tn cnt ln dr pl rp wt gdt opt tnt cntt lnt drt plt rpt rn sp th en kd nb as ov) : W p l e room_1 (s.setDrawn d0) m #[Value.ref b] below meth c H locs cells slots Q (F0 m 281 ls []) := by
  exact lc_poundLevel_ok h

theorem dc_poundDepth (h : LH p l e s m below meth c Q D A cI cZ cJ b N xs ad n L a i cells slots d0 H locs ls w op tn cnt ln dr pl rp wt gdt opt tnt cntt lnt drt plt rpt rn sp th en kd nb as ov) : W p l e room_1 (s.setDrawn d0) m #[Value.ref b] below meth c H locs cells slots Q (F0 m 294 ls []) := by
  exact lc_poundDepth_ok h

theorem dc_poundWater (h : LH p l e s m below meth c Q D A cI cZ cJ b N xs ad n L a i cells slots d0 H locs ls w op tn cnt ln dr pl rp wt gdt opt tnt cntt lnt drt plt rpt rn sp th en kd nb as ov) : W p l e room_1 (s.setDrawn d0) m #[Value.ref b] below meth c H locs cells slots Q (F0 m 307 ls []) := by
  exact lc_poundWater_ok h

theorem dc_rain (h : LH p l e s m below meth c Q D A cI cZ cJ b N xs ad n L a i cells slots d0 H locs ls w op tn cnt ln dr pl rp wt gdt opt tnt cntt lnt drt plt rpt rn sp th en kd nb as ov) : W p l e room_1 (s.setDrawn d0) m #[Value.ref b] below meth c H locs cells slots Q (F0 m 320 ls []) := by
  by_cases hv : 1 ≤ (sx xs (i + 1)) ∧ (sx xs (i + 1)) ≤ 999
  · by_cases hc : isO op n = true
    · exact lc_rain_no2 h hv hc
    · exact lc_rain_ok h hv hc
  · exact lc_rain_no1 h hv

theorem dc_headAt (h : LH p l e s m below meth c Q D A cI cZ cJ b N xs ad n L a i cells slots d0 H locs ls w op tn cnt ln dr pl rp wt gdt opt tnt cntt lnt drt plt rpt rn sp th en kd nb as ov) : W p l e room_1 (s.setDrawn d0) m #[Value.ref b] below meth c H locs cells slots Q (F0 m 376 ls []) := by
  by_cases hv : 0 ≤ (sx xs (i + 1)) ∧ (sx xs (i + 1)) ≤ n
  · exact lc_headAt_ok h hv
  · exact lc_headAt_no h hv

theorem dc_isOpen (h : LH p l e s m below meth c Q D A cI cZ cJ b N xs ad n L a i cells slots d0 H locs ls w op tn cnt ln dr pl rp wt gdt opt tnt cntt lnt drt plt rpt rn sp th en kd nb as ov) : W p l e room_1 (s.setDrawn d0) m #[Value.ref b] below meth c H locs cells slots Q (F0 m 432 ls []) := by
  by_cases hv : 0 ≤ (sx xs (i + 1)) ∧ (sx xs (i + 1)) ≤ n
  · exact lc_isOpen_ok h hv
  · exact lc_isOpen_no h hv

theorem dc_openObstacle (h : LH p l e s m below meth c Q D A cI cZ cJ b N xs ad n L a i cells slots d0 H locs ls w op tn cnt ln dr pl rp wt gdt opt tnt cntt lnt drt plt rpt rn sp th en kd nb as ov) : W p l e room_1 (s.setDrawn d0) m #[Value.ref b] below meth c H locs cells slots Q (F0 m 495 ls []) := by
  by_cases hv : 0 ≤ (sx xs (i + 1)) ∧ (sx xs (i + 1)) ≤ n
  · exact lc_openObstacle_ok h hv
  · exact lc_openObstacle_no h hv

theorem dc_open (h : LH p l e s m below meth c Q D A cI cZ cJ b N xs ad n L a i cells slots d0 H locs ls w op tn cnt ln dr pl rp wt gdt opt tnt cntt lnt drt plt rpt rn sp th en kd nb as ov) : W p l e room_1 (s.setDrawn d0) m #[Value.ref b] below meth c H locs cells slots Q (F0 m 551 ls []) := by
  by_cases hv : 0 ≤ (sx xs (i + 1)) ∧ (sx xs (i + 1)) ≤ n
  · by_cases hc : opO n L a w op tn (sx xs (i + 1)) = 0
    · exact lc_open_ok h hv hc
    · exact lc_open_no2 h hv hc
  · exact lc_open_no1 h hv

theorem dc_shut (h : LH p l e s m below meth c Q D A cI cZ cJ b N xs ad n L a i cells slots d0 H locs ls w op tn cnt ln dr pl rp wt gdt opt tnt cntt lnt drt plt rpt rn sp th en kd nb as ov) : W p l e room_1 (s.setDrawn d0) m #[Value.ref b] below meth c H locs cells slots Q (F0 m 607 ls []) := by
  by_cases hv : 0 ≤ (sx xs (i + 1)) ∧ (sx xs (i + 1)) ≤ n
  · exact lc_shut_ok h hv
  · exact lc_shut_no h hv

theorem dc_turnsOf (h : LH p l e s m below meth c Q D A cI cZ cJ b N xs ad n L a i cells slots d0 H locs ls w op tn cnt ln dr pl rp wt gdt opt tnt cntt lnt drt plt rpt rn sp th en kd nb as ov) : W p l e room_1 (s.setDrawn d0) m #[Value.ref b] below meth c H locs cells slots Q (F0 m 670 ls []) := by
  by_cases hv : 0 ≤ (sx xs (i + 1)) ∧ (sx xs (i + 1)) ≤ n
  · exact lc_turnsOf_ok h hv
  · exact lc_turnsOf_no h hv

theorem dc_wind (h : LH p l e s m below meth c Q D A cI cZ cJ b N xs ad n L a i cells slots d0 H locs ls w op tn cnt ln dr pl rp wt gdt opt tnt cntt lnt drt plt rpt rn sp th en kd nb as ov) : W p l e room_1 (s.setDrawn d0) m #[Value.ref b] below meth c H locs cells slots Q (F0 m 726 ls []) := by
  by_cases hv : 0 ≤ (sx xs (i + 1)) ∧ (sx xs (i + 1)) ≤ n
  · by_cases hy2 : 0 ≤ (sx xs (i + 2)) ∧ (sx xs (i + 2)) ≤ 5
    · by_cases hb9 : (sx xs (i + 2)) = 0 ∨ ¬ beO op (sx xs (i + 1)) = true
      · exact lc_wind_ok h hv hy2 hb9
      · exact lc_wind_no3 h hv hy2 ⟨fun q => hb9 (Or.inl q), Classical.not_not.mp (fun q => hb9 (Or.inr q))⟩
    · exact lc_wind_no2 h hv hy2
  · exact lc_wind_no1 h hv

theorem dc_pass (h : LH p l e s m below meth c Q D A cI cZ cJ b N xs ad n L a i cells slots d0 H locs ls w op tn cnt ln dr pl rp wt gdt opt tnt cntt lnt drt plt rpt rn sp th en kd nb as ov) : W p l e room_1 (s.setDrawn d0) m #[Value.ref b] below meth c H locs cells slots Q (F0 m 794 ls []) := by
  by_cases hv : 1 ≤ (sx xs (i + 1)) ∧ (sx xs (i + 1)) ≤ 60
  · exact lc_pass_ok h hv
  · exact lc_pass_no h hv

theorem dc_clock (h : LH p l e s m below meth c Q D A cI cZ cJ b N xs ad n L a i cells slots d0 H locs ls w op tn cnt ln dr pl rp wt gdt opt tnt cntt lnt drt plt rpt rn sp th en kd nb as ov) : W p l e room_1 (s.setDrawn d0) m #[Value.ref b] below meth c H locs cells slots Q (F0 m 850 ls []) := by
  exact lc_clock_ok h

theorem dc_addBoat (h : LH p l e s m below meth c Q D A cI cZ cJ b N xs ad n L a i cells slots d0 H locs ls w op tn cnt ln dr pl rp wt gdt opt tnt cntt lnt drt plt rpt rn sp th en kd nb as ov) : W p l e room_1 (s.setDrawn d0) m #[Value.ref b] below meth c H locs cells slots Q (F0 m 863 ls []) := by
  by_cases hv1 : 5 ≤ (sx xs (i + 1)) ∧ (sx xs (i + 1)) ≤ 60
  · by_cases hv2 : 1 ≤ (sx xs (i + 2)) ∧ (sx xs (i + 2)) ≤ 19
    · by_cases hv3 : cnt ≤ 9 ∧ ((ub (sx xs (i + 3))) = 0 ∨ (sx xs (i + 2)) ≤ w.1 / a)
      · exact lc_addBoat_ok h hv1 hv2 hv3
      · exact lc_addBoat_no2 h hv1 hv2 hv3
    · exact lc_addBoat_no1 h (fun q => hv2 q.2)
  · exact lc_addBoat_no1 h (fun q => hv1 q.1)

theorem dc_boatCount (h : LH p l e s m below meth c Q D A cI cZ cJ b N xs ad n L a i cells slots d0 H locs ls w op tn cnt ln dr pl rp wt gdt opt tnt cntt lnt drt plt rpt rn sp th en kd nb as ov) : W p l e room_1 (s.setDrawn d0) m #[Value.ref b] below meth c H locs cells slots Q (F0 m 959 ls []) := by
  exact lc_boatCount_ok h

theorem dc_placeOf (h : LH p l e s m below meth c Q D A cI cZ cJ b N xs ad n L a i cells slots d0 H locs ls w op tn cnt ln dr pl rp wt gdt opt tnt cntt lnt drt plt rpt rn sp th en kd nb as ov) : W p l e room_1 (s.setDrawn d0) m #[Value.ref b] below meth c H locs cells slots Q (F0 m 972 ls []) := by
  by_cases hv : 0 ≤ (sx xs (i + 1)) ∧ (sx xs (i + 1)) ≤ cnt - 1
  · exact lc_placeOf_ok h hv
  · exact lc_placeOf_no h hv

theorem dc_boatsAt (h : LH p l e s m below meth c Q D A cI cZ cJ b N xs ad n L a i cells slots d0 H locs ls w op tn cnt ln dr pl rp wt gdt opt tnt cntt lnt drt plt rpt rn sp th en kd nb as ov) : W p l e room_1 (s.setDrawn d0) m #[Value.ref b] below meth c H locs cells slots Q (F0 m 1028 ls []) := by
  by_cases hv : 0 ≤ (sx xs (i + 1)) ∧ (sx xs (i + 1)) ≤ n + 1
  · exact lc_boatsAt_ok h hv
  · exact lc_boatsAt_no h hv

theorem dc_freeLength (h : LH p l e s m below meth c Q D A cI cZ cJ b N xs ad n L a i cells slots d0 H locs ls w op tn cnt ln dr pl rp wt gdt opt tnt cntt lnt drt plt rpt rn sp th en kd nb as ov) : W p l e room_1 (s.setDrawn d0) m #[Value.ref b] below meth c H locs cells slots Q (F0 m 1084 ls []) := by
  by_cases hv : 0 ≤ (sx xs (i + 1)) ∧ (sx xs (i + 1)) ≤ n - 1
  · exact lc_freeLength_ok h hv
  · exact lc_freeLength_no h hv

theorem dc_moveObstacle (h : LH p l e s m below meth c Q D A cI cZ cJ b N xs ad n L a i cells slots d0 H locs ls w op tn cnt ln dr pl rp wt gdt opt tnt cntt lnt drt plt rpt rn sp th en kd nb as ov) : W p l e room_1 (s.setDrawn d0) m #[Value.ref b] below meth c H locs cells slots Q (F0 m 1140 ls []) := by
  by_cases hv : 0 ≤ (sx xs (i + 1)) ∧ (sx xs (i + 1)) ≤ cnt - 1
  · exact lc_moveObstacle_ok h hv
  · exact lc_moveObstacle_no h hv

theorem dc_move (h : LH p l e s m below meth c Q D A cI cZ cJ b N xs ad n L a i cells slots d0 H locs ls w op tn cnt ln dr pl rp wt gdt opt tnt cntt lnt drt plt rpt rn sp th en kd nb as ov) : W p l e room_1 (s.setDrawn d0) m #[Value.ref b] below meth c H locs cells slots Q (F0 m 1224 ls []) := by
  by_cases hv : 0 ≤ (sx xs (i + 1)) ∧ (sx xs (i + 1)) ≤ cnt - 1
  · by_cases hc : mvO n a w op cnt ln dr pl (sx xs (i + 1)) (ub (sx xs (i + 2))) = 0
    · exact lc_move_ok h hv hc
    · exact lc_move_no2 h hv hc
  · exact lc_move_no1 h hv

theorem dc_take (h : LH p l e s m below meth c Q D A cI cZ cJ b N xs ad n L a i cells slots d0 H locs ls w op tn cnt ln dr pl rp wt gdt opt tnt cntt lnt drt plt rpt rn sp th en kd nb as ov) : W p l e room_1 (s.setDrawn d0) m #[Value.ref b] below meth c H locs cells slots Q (F0 m 1308 ls []) := by
  by_cases hv : 0 ≤ (sx xs (i + 1)) ∧ (sx xs (i + 1)) ≤ cnt - 1
  · exact lc_take_ok h hv
  · exact lc_take_no h hv

theorem dc_reportLength (h : LH p l e s m below meth c Q D A cI cZ cJ b N xs ad n L a i cells slots d0 H locs ls w op tn cnt ln dr pl rp wt gdt opt tnt cntt lnt drt plt rpt rn sp th en kd nb as ov) : W p l e room_1 (s.setDrawn d0) m #[Value.ref b] below meth c H locs cells slots Q (F0 m 1392 ls []) := by
  exact lc_reportLength_ok h

theorem dc_reportKind (h : LH p l e s m below meth c Q D A cI cZ cJ b N xs ad n L a i cells slots d0 H locs ls w op tn cnt ln dr pl rp wt gdt opt tnt cntt lnt drt plt rpt rn sp th en kd nb as ov) : W p l e room_1 (s.setDrawn d0) m #[Value.ref b] below meth c H locs cells slots Q (F0 m 1405 ls []) := by
  exact lc_reportKind_ok h

theorem dc_reportNumber (h : LH p l e s m below meth c Q D A cI cZ cJ b N xs ad n L a i cells slots d0 H locs ls w op tn cnt ln dr pl rp wt gdt opt tnt cntt lnt drt plt rpt rn sp th en kd nb as ov) : W p l e room_1 (s.setDrawn d0) m #[Value.ref b] below meth c H locs cells slots Q (F0 m 1430 ls []) := by
  exact lc_reportNumber_ok h

theorem dc_minutesFor (h : LH p l e s m below meth c Q D A cI cZ cJ b N xs ad n L a i cells slots d0 H locs ls w op tn cnt ln dr pl rp wt gdt opt tnt cntt lnt drt plt rpt rn sp th en kd nb as ov) : W p l e room_1 (s.setDrawn d0) m #[Value.ref b] below meth c H locs cells slots Q (F0 m 1455 ls []) := by
  by_cases hv : 0 ≤ (sx xs (i + 1)) ∧ (sx xs (i + 1)) ≤ cnt - 1
  · exact lc_minutesFor_ok h hv
  · exact lc_minutesFor_no h hv

theorem dc_waterFor (h : LH p l e s m below meth c Q D A cI cZ cJ b N xs ad n L a i cells slots d0 H locs ls w op tn cnt ln dr pl rp wt gdt opt tnt cntt lnt drt plt rpt rn sp th en kd nb as ov) : W p l e room_1 (s.setDrawn d0) m #[Value.ref b] below meth c H locs cells slots Q (F0 m 1539 ls []) := by
  by_cases hv : 0 ≤ (sx xs (i + 1)) ∧ (sx xs (i + 1)) ≤ cnt - 1
  · exact lc_waterFor_ok h hv
  · exact lc_waterFor_no h hv

theorem dc_lostWater (h : LH p l e s m below meth c Q D A cI cZ cJ b N xs ad n L a i cells slots d0 H locs ls w op tn cnt ln dr pl rp wt gdt opt tnt cntt lnt drt plt rpt rn sp th en kd nb as ov) : W p l e room_1 (s.setDrawn d0) m #[Value.ref b] below meth c H locs cells slots Q (F0 m 1623 ls []) := by
  exact lc_lostWater_ok h

theorem dc_meanLevel (h : LH p l e s m below meth c Q D A cI cZ cJ b N xs ad n L a i cells slots d0 H locs ls w op tn cnt ln dr pl rp wt gdt opt tnt cntt lnt drt plt rpt rn sp th en kd nb as ov) : W p l e room_1 (s.setDrawn d0) m #[Value.ref b] below meth c H locs cells slots Q (F0 m 1636 ls []) := by
  exact lc_meanLevel h

theorem dc_poundPart (h : LH p l e s m below meth c Q D A cI cZ cJ b N xs ad n L a i cells slots d0 H locs ls w op tn cnt ln dr pl rp wt gdt opt tnt cntt lnt drt plt rpt rn sp th en kd nb as ov) : W p l e room_1 (s.setDrawn d0) m #[Value.ref b] below meth c H locs cells slots Q (F0 m 1677 ls []) := by
  exact lc_poundPart h

theorem dc_isConsistent (h : LH p l e s m below meth c Q D A cI cZ cJ b N xs ad n L a i cells slots d0 H locs ls w op tn cnt ln dr pl rp wt gdt opt tnt cntt lnt drt plt rpt rn sp th en kd nb as ov) : W p l e room_1 (s.setDrawn d0) m #[Value.ref b] below meth c H locs cells slots Q (F0 m 1720 ls []) := by
  exact lc_isConsistent_ok h
theorem and31 (x : Int32) : ∃ k : Nat, k < 32 ∧ x &&& iI 31 = iI (k : Int) := by
  refine ⟨(x &&& iI 31).toBitVec.toNat, ?_, ?_⟩
  · have h : (x &&& iI 31).toBitVec = x.toBitVec &&& 31#32 := rfl
    rw [h, BitVec.toNat_and]
    exact Nat.lt_of_le_of_lt Nat.and_le_right (by decide)
  · apply Int32.toBitVec_inj.mp
    show _ = BitVec.ofInt 32 _
    rw [BitVec.ofInt_natCast, BitVec.ofNat_toNat, BitVec.setWidth_eq]
theorem iI_len (n : Nat) : Int32.ofNat n = iI (n : Int) := by
  apply Int32.toBitVec_inj.mp
  show BitVec.ofNat 32 n = BitVec.ofInt 32 (n : Int)
  rw [BitVec.ofInt_natCast]
set_option maxRecDepth 100000 in
set_option maxHeartbeats 2000000 in
theorem law_sw (h : LH p l e s m below meth c Q D A cI cZ cJ b N xs ad n L a i cells slots d0 H locs ls w op tn cnt ln dr pl rp wt gdt opt tnt cntt lnt drt plt rpt rn sp th en kd nb as ov) : W p l e room_1 (s.setDrawn d0) m #[Value.ref b] below meth c H locs cells slots Q (F0 m 62 ls []) := by
  obtain ⟨hl0, hd0, hF, hi, hN, hf, hLI, hP, hD, hS, hl, K⟩ := id h
  obtain ⟨hx, hb, hml, hts, hown, hXs, hbl, hbA, hA, hK, hNW, hXP, hNC⟩ := hF
  refine lv_aload_n hx hb dL_law_62 rfl (lv_at hl 0 rfl) ?_
  refine lv_iload hx hb dL_law_63 (lv_at hl 4 rfl) ?_
  refine li_sld (H0 := s.heap) hx hb (va_X.moved (u := s) (U := s.setDrawn d0) (Vm.Alike.refl s.vm) hXs) hbl hbA hS (by omega) (by omega) (ib_i (by omega) (by omega)) dL_law_65 ?_
  refine li_bipush hx hb dL_law_66 (by decide +kernel) ?_
  refine lv_iand hx hb dL_law_68 ?_
  obtain ⟨k, hk, hk2⟩ := and31 (iI (sx xs i))
  rw [hk2]
  rcases (show k = 0 ∨ k = 1 ∨ k = 2 ∨ k = 3 ∨ k = 4 ∨ k = 5 ∨ k = 6 ∨ k = 7 ∨ k = 8 ∨ k = 9 ∨ k = 10 ∨ k = 11 ∨ k = 12 ∨ k = 13 ∨ k = 14 ∨ k = 15 ∨ k = 16 ∨ k = 17 ∨ k = 18 ∨ k = 19 ∨ k = 20 ∨ k = 21 ∨ k = 22 ∨ k = 23 ∨ k = 24 ∨ k = 25 ∨ k = 26 ∨ k = 27 ∨ k = 28 ∨ k = 29 ∨ k = 30 ∨ k = 31 by omega) with rfl | rfl | rfl | rfl | rfl | rfl | rfl | rfl | rfl | rfl | rfl | rfl | rfl | rfl | rfl | rfl | rfl | rfl | rfl | rfl | rfl | rfl | rfl | rfl | rfl | rfl | rfl | rfl | rfl | rfl | rfl | rfl
  · exact lv_tableIn (off := 143) (tgt := 212) hx hb dL_law_69 (by decide +kernel) (by decide +kernel) (by decide +kernel) (by decide) (dc_chambers h)
  · exact lv_tableIn (off := 156) (tgt := 225) hx hb dL_law_69 (by decide +kernel) (by decide +kernel) (by decide +kernel) (by decide) (dc_levelOf h)
  · exact lv_tableIn (off := 212) (tgt := 281) hx hb dL_law_69 (by decide +kernel) (by decide +kernel) (by decide +kernel) (by decide) (dc_poundLevel h)
  · exact lv_tableIn (off := 225) (tgt := 294) hx hb dL_law_69 (by decide +kernel) (by decide +kernel) (by decide +kernel) (by decide) (dc_poundDepth h)
  · exact lv_tableIn (off := 238) (tgt := 307) hx hb dL_law_69 (by decide +kernel) (by decide +kernel) (by decide +kernel) (by decide) (dc_poundWater h)
  · exact lv_tableIn (off := 251) (tgt := 320) hx hb dL_law_69 (by decide +kernel) (by decide +kernel) (by decide +kernel) (by decide) (dc_rain h)
  · exact lv_tableIn (off := 307) (tgt := 376) hx hb dL_law_69 (by decide +kernel) (by decide +kernel) (by decide +kernel) (by decide) (dc_headAt h)
  · exact lv_tableIn (off := 363) (tgt := 432) hx hb dL_law_69 (by decide +kernel) (by decide +kernel) (by decide +kernel) (by decide) (dc_isOpen h)
  · exact lv_tableIn (off := 426) (tgt := 495) hx hb dL_law_69 (by decide +kernel) (by decide +kernel) (by decide +kernel) (by decide) (dc_openObstacle h)
  · exact lv_tableIn (off := 482) (tgt := 551) hx hb dL_law_69 (by decide +kernel) (by decide +kernel) (by decide +kernel) (by decide) (dc_open h)
  · exact lv_tableIn (off := 538) (tgt := 607) hx hb dL_law_69 (by decide +kernel) (by decide +kernel) (by decide +kernel) (by decide) (dc_shut h)
  · exact lv_tableIn (off := 601) (tgt := 670) hx hb dL_law_69 (by decide +kernel) (by decide +kernel) (by decide +kernel) (by decide) (dc_turnsOf h)
  · exact lv_tableIn (off := 657) (tgt := 726) hx hb dL_law_69 (by decide +kernel) (by decide +kernel) (by decide +kernel) (by decide) (dc_wind h)
  · exact lv_tableIn (off := 725) (tgt := 794) hx hb dL_law_69 (by decide +kernel) (by decide +kernel) (by decide +kernel) (by decide) (dc_pass h)
  · exact lv_tableIn (off := 781) (tgt := 850) hx hb dL_law_69 (by decide +kernel) (by decide +kernel) (by decide +kernel) (by decide) (dc_clock h)
  · exact lv_tableIn (off := 794) (tgt := 863) hx hb dL_law_69 (by decide +kernel) (by decide +kernel) (by decide +kernel) (by decide) (dc_addBoat h)
  · exact lv_tableIn (off := 890) (tgt := 959) hx hb dL_law_69 (by decide +kernel) (by decide +kernel) (by decide +kernel) (by decide) (dc_boatCount h)
  · exact lv_tableIn (off := 903) (tgt := 972) hx hb dL_law_69 (by decide +kernel) (by decide +kernel) (by decide +kernel) (by decide) (dc_placeOf h)
  · exact lv_tableIn (off := 959) (tgt := 1028) hx hb dL_law_69 (by decide +kernel) (by decide +kernel) (by decide +kernel) (by decide) (dc_boatsAt h)
  · exact lv_tableIn (off := 1015) (tgt := 1084) hx hb dL_law_69 (by decide +kernel) (by decide +kernel) (by decide +kernel) (by decide) (dc_freeLength h)
  · exact lv_tableIn (off := 1071) (tgt := 1140) hx hb dL_law_69 (by decide +kernel) (by decide +kernel) (by decide +kernel) (by decide) (dc_moveObstacle h)
  · exact lv_tableIn (off := 1155) (tgt := 1224) hx hb dL_law_69 (by decide +kernel) (by decide +kernel) (by decide +kernel) (by decide) (dc_move h)
  · exact lv_tableIn (off := 1239) (tgt := 1308) hx hb dL_law_69 (by decide +kernel) (by decide +kernel) (by decide +kernel) (by decide) (dc_take h)
  · exact lv_tableIn (off := 1323) (tgt := 1392) hx hb dL_law_69 (by decide +kernel) (by decide +kernel) (by decide +kernel) (by decide) (dc_reportLength h)
  · exact lv_tableIn (off := 1336) (tgt := 1405) hx hb dL_law_69 (by decide +kernel) (by decide +kernel) (by decide +kernel) (by decide) (dc_reportKind h)
  · exact lv_tableIn (off := 1361) (tgt := 1430) hx hb dL_law_69 (by decide +kernel) (by decide +kernel) (by decide +kernel) (by decide) (dc_reportNumber h)
  · exact lv_tableIn (off := 1386) (tgt := 1455) hx hb dL_law_69 (by decide +kernel) (by decide +kernel) (by decide +kernel) (by decide) (dc_minutesFor h)
  · exact lv_tableIn (off := 1470) (tgt := 1539) hx hb dL_law_69 (by decide +kernel) (by decide +kernel) (by decide +kernel) (by decide) (dc_waterFor h)
  · exact lv_tableIn (off := 1554) (tgt := 1623) hx hb dL_law_69 (by decide +kernel) (by decide +kernel) (by decide +kernel) (by decide) (dc_lostWater h)
  · exact lv_tableIn (off := 1567) (tgt := 1636) hx hb dL_law_69 (by decide +kernel) (by decide +kernel) (by decide +kernel) (by decide) (dc_meanLevel h)
  · exact lv_tableIn (off := 1608) (tgt := 1677) hx hb dL_law_69 (by decide +kernel) (by decide +kernel) (by decide +kernel) (by decide) (dc_poundPart h)
  · exact lv_tableIn (off := 1651) (tgt := 1720) hx hb dL_law_69 (by decide +kernel) (by decide +kernel) (by decide +kernel) (by decide) (dc_isConsistent h)
set_option maxRecDepth 100000 in
set_option maxHeartbeats 2000000 in
/-- the law's loop, from its head -/
theorem law_loop {p : Program} {l : Launch} {e : Env} {s : State} {m : MethodId} {below : List Frame} {meth : Method} {c : Code} {D : va_G} {cI cZ cJ : ClassId} {b N : Nat} {xs : Nat → Int32} {ad : Nat → Nat} {n L a : Int} (hl0 : l.stackTraces = false) (hr : meth.sig.returnType = ret) (hlocks : meth.locks = false) (hF : LFx p s m c b N xs D (ty3 cI cZ cJ) (fun q : Nat => s.heap.size ≤ q)) (hN : N ≤ 2051) :
  ∀ (f : Nat) (i : Int), 3 ≤ i → i ≤ 2051 + 4 → (N : Int) - i < 4 * (f : Int) → ∀ (cells slots : Nat), cells + f ≤ 665646 → slots + 6 * f ≤ 7099133 → ∀ (w : Wt) (op : Int → Int) (tn : Int → Int) (cnt : Int) (ln : Int → Int) (dr : Int → Int) (pl : Int → Int) (rp : Rt) (wt : Wt) (gdt : Int) (opt : Int → Int) (tnt : Int → Int) (cntt : Int) (lnt : Int → Int) (drt : Int → Int) (plt : Int → Int) (rpt : Rt) (rn : Int) (sp : Int) (th : Int) (en : Int) (kd : Int → Int) (nb : Int → Int) (as : Int → Int) (ov : Nat → Int64), LI n L a w op tn cnt ln dr pl rp rpt rn sp en kd nb → ∀ (d0 : Drawn), s.drawn.sameBut d0 lw_cs → ∀ (H : Heap) (locs : List Loc) (ls : Array Slot), va_P D vwCl (LW cI cZ cJ ad n L a w op tn cnt ln dr pl rp wt gdt opt tnt cntt lnt drt plt rpt rn sp th en kd nb as ov) H → va_D (fun q : Nat => s.heap.size ≤ q) (LW cI cZ cJ ad n L a w op tn cnt ln dr pl rp wt gdt opt tnt cntt lnt drt plt rpt rn sp th en kd nb as ov) → va_S (fun q : Nat => s.heap.size ≤ q) s.heap H locs → lv_has ls 9 [(0, .ref b), (1, .ref (ad 0)), (2, .ref (ad 24)), (3, .ref (ad 23)), (4, .int (iI i))] → W p l e room_1 (s.setDrawn d0) m #[Value.ref b] below meth c H locs cells slots (lw_Z below #[Value.ref b] s) (F0 m 53 ls []) := by
  intro f
  have hR1 : room_1.cells = 665646 := rfl
  have hR2 : room_1.slots = 7099133 := rfl
  induction f with
  | zero =>
    intro i h3 h4 hfu cells slots hc1 hc2 w op tn cnt ln dr pl rp wt gdt opt tnt cntt lnt drt plt rpt rn sp th en kd nb as ov hLI d0 hd0 H locs ls hP hD hS hl
    obtain ⟨hx, hb, hml, hts, hown, hXs, hbl, hbA, hA, hK, hNW, hXP, hNC⟩ := hF
    refine lv_iload hx hb dL_law_53 (lv_at hl 4 rfl) ?_
    refine lv_aload_n hx hb dL_law_55 rfl (lv_at hl 0 rfl) ?_
    refine va_slen (H0 := s.heap) hx hb (va_X.moved (u := s) (U := s.setDrawn d0) (Vm.Alike.refl s.vm) hXs) hbl hbA hS dL_law_56 ?_
    rw [iI_len]
    refine li_const hx hb dL_law_57 ?_
    refine li_sub hx hb dL_law_58 ?_
    refine li_icmp_gt (tgt := 1739) hx hb dL_law_59 (by decide) (ib_i (by omega) (by omega)) (ib_i (by omega) (by omega)) (fun _ => ?_) (fun c_1 => absurd c_1 (by omega))
    refine lv_iconst (v := 1) hx hb dL_law_1739 (by decide) ?_
    refine va_forget (fun q hq => hS.2.2 q hq) ?_
    refine W.widen (k := 665646) (n := 7099133) (by omega) (by omega) ?_
    exact lw_ret hd0 hx hb hr hlocks dL_law_1740
  | succ f ih =>
    intro i h3 h4 hfu cells slots hc1 hc2 w op tn cnt ln dr pl rp wt gdt opt tnt cntt lnt drt plt rpt rn sp th en kd nb as ov hLI d0 hd0 H locs ls hP hD hS hl
    have hF0 := hF
    obtain ⟨hx, hb, hml, hts, hown, hXs, hbl, hbA, hA, hK, hNW, hXP, hNC⟩ := hF
    refine lv_iload hx hb dL_law_53 (lv_at hl 4 rfl) ?_
    refine lv_aload_n hx hb dL_law_55 rfl (lv_at hl 0 rfl) ?_
    refine va_slen (H0 := s.heap) hx hb (va_X.moved (u := s) (U := s.setDrawn d0) (Vm.Alike.refl s.vm) hXs) hbl hbA hS dL_law_56 ?_
    rw [iI_len]
    refine li_const hx hb dL_law_57 ?_
    refine li_sub hx hb dL_law_58 ?_
    refine li_icmp_gt (tgt := 1739) hx hb dL_law_59 (by decide) (ib_i (by omega) (by omega)) (ib_i (by omega) (by omega)) (fun _ => ?_) (fun c_1 => ?_)
    · refine lv_iconst (v := 1) hx hb dL_law_1739 (by decide) ?_
      refine va_forget (fun q hq => hS.2.2 q hq) ?_
      refine W.widen (k := 665646) (n := 7099133) (by omega) (by omega) ?_
      exact lw_ret hd0 hx hb hr hlocks dL_law_1740
    · refine law_sw ⟨hl0, hd0, hF0, ⟨h3, by omega⟩, hN, ⟨by omega, by omega⟩, hLI, hP, hD, hS, hl, ?_⟩
      intro w9 op9 tn9 cnt9 ln9 dr9 pl9 rp9 wt9 gdt9 opt9 tnt9 cntt9 lnt9 drt9 plt9 rpt9 rn9 sp9 th9 en9 kd9 nb9 as9 ov9 hLI1 d1 hd1 H1 locs1 ls1 hP1 hD1 hS1 hl1
      refine li_inc (j := 4) (lv' := [(4, .int (iI (i + 4))), (0, .ref b), (1, .ref (ad 0)), (2, .ref (ad 24)), (3, .ref (ad 23))]) hx hb dL_law_1733 hl1 rfl (by decide) rfl (fun ls2 hl2 => ?_)
      refine lv_goto (tgt := 53) hx hb dL_law_1736 (by decide) ?_
      exact ih (i + 4) (by omega) (by omega) (by omega) (cells + 1) (slots + 6) (by omega) (by omega) _ _ _ _ _ _ _ _ _ _ _ _ _ _ _ _ _ _ _ _ _ _ _ _ _ hLI1 d1 hd1 H1 locs1 ls2 hP1 hD1 hS1 (lv_sub hl2 [1, 2, 3, 4, 0] rfl)
end LOOP
