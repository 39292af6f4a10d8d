-- the ladder in whole numbers: water, lost, clock, units by chamber
abbrev Wt : Type := Int × Int × Int × (Int → Int)
abbrev Rt : Type := Int × Int × Int × Int
def lvf (L : Int) (u : Int → Int) : Int → Int := fun z => z * L + u z
abbrev ty3 (cI cZ cJ : ClassId) : tyL := [(cI, .int), (cZ, .boolean), (cJ, .long)]
abbrev cWa (cI : ClassId) (n L a gd : Int) (w : Wt) (h0 h1 : Nat) : va_W := [(h0, .inr (4, [.int (iI L), .int (iI a), .ref h1, .int (iI (n * L - 20)), .int (iI w.1), .int (iI w.2.1), .int (iI gd), .int (iI w.2.2.1)])), (h1, .inl (cI, n.toNat, .inl (aZ (lvf L w.2.2.2))))]
abbrev cGa (cI cZ : ClassId) (op tn : Int → Int) (h0 h1 h2 : Nat) : va_W := [(h0, .inr (1, [.ref h1, .ref h2])), (h1, .inl (cZ, 7, .inl (aZ op))), (h2, .inl (cI, 7, .inl (aZ tn)))]
abbrev cFl (cI : ClassId) (cnt : Int) (ln dr pl : Int → Int) (h0 h1 h2 h3 : Nat) : va_W := [(h0, .inr (0, [.ref h1, .ref h2, .ref h3, .int (iI cnt)])), (h1, .inl (cI, 10, .inl (aZ ln))), (h2, .inl (cI, 10, .inl (aZ dr))), (h3, .inl (cI, 10, .inl (aZ pl)))]
abbrev cRp (rp : Rt) (h0 : Nat) : va_W := [(h0, .inr (3, [.int (iI rp.1), .int (iI rp.2.1), .int (iI rp.2.2.1), .int (iI rp.2.2.2)]))]
abbrev cLa (h0 hw hg hf hr : Nat) : va_W := [(h0, .inr (2, [.ref hw, .ref hg, .ref hf, .ref hr]))]
abbrev cLs (h0 hl ht : Nat) : va_W := [(h0, .inr (5, [.ref hl, .ref ht]))]
abbrev cMd (cI : ClassId) (n L a rn sp cnt th : Int) (row as ln dr : Int → Int) (h0 h1 h2 h3 h4 : Nat) : va_W := [(h0, .inr (6, [.int (iI n), .int (iI L), .int (iI a), .int (iI rn), .int (iI sp), .ref h1, .ref h2, .ref h3, .ref h4, .int (iI cnt), .int (iI th)])), (h1, .inl (cI, 50, .inl (aZ row))), (h2, .inl (cI, 50, .inl (aZ as))), (h3, .inl (cI, 10, .inl (aZ ln))), (h4, .inl (cI, 10, .inl (aZ dr)))]
theorem mu_b {g L : Int} (h0 : -1 ≤ g) (h1 : g ≤ 7) (hL : 5 ≤ L ∧ L ≤ 40) : -40 ≤ g * L ∧ g * L ≤ 280 := by
  have a1 : g * L ≤ 7 * L := Int.mul_le_mul_of_nonneg_right h1 (by omega)
  have a2 : (-1) * L ≤ g * L := Int.mul_le_mul_of_nonneg_right h0 (by omega)
  omega
theorem mu_l {g h L : Int} (h1 : g ≤ h) (hL : 5 ≤ L ∧ L ≤ 40) : g * L ≤ h * L := Int.mul_le_mul_of_nonneg_right h1 (by omega)
theorem mu_1 (g L : Int) : (g + 1) * L = g * L + L := by rw [Int.add_mul, Int.one_mul]
theorem mu_m (g L : Int) : (g - 1) * L = g * L - L := by rw [Int.sub_mul, Int.one_mul]
theorem dv_b {x a : Int} (ha : 1 ≤ a ∧ a ≤ 50) (h0 : -1000 ≤ x) (h1 : x ≤ 20 * a) : -1000 ≤ x / a ∧ x / a ≤ 20 := by
  constructor
  · have h2 : -1000 * a ≤ x := by omega
    exact (Int.le_ediv_iff_mul_le (by omega)).mpr h2
  · exact Int.le_of_lt_add_one ((Int.ediv_lt_iff_lt_mul (by omega)).mpr (by rw [mu_1]; omega))
def lvA (n L a : Int) (w : Wt) (k : Int) : Int := if k < 0 then 0 else if k < n then k * L + w.2.2.2 k else n * L - 20 + w.1 / a
def hdA (n L a : Int) (w : Wt) (g : Int) : Int := lvA n L a w g - lvA n L a w (g - 1)
def WI (n L a : Int) (w : Wt) : Prop := (-1000 ≤ w.1 ∧ w.1 ≤ 20 * a) ∧ ∀ c, 0 ≤ c → c < n → 0 ≤ w.2.2.2 c ∧ w.2.2.2 c ≤ L
theorem lvA_b {n L a : Int} {w : Wt} (hn : 1 ≤ n ∧ n ≤ 6) (hL : 5 ≤ L ∧ L ≤ 40) (ha : 1 ≤ a ∧ a ≤ 50) (hw : WI n L a w) (k : Int) (hk : k ≤ n) : -2000 ≤ lvA n L a w k ∧ lvA n L a w k ≤ 2000 := by
  unfold lvA
  have d1 := dv_b ha hw.1.1 hw.1.2
  have m1 := mu_b (g := n) (by omega) (by omega) hL
  by_cases h : k < 0
  · rw [if_pos h]; omega
  · rw [if_neg h]
    by_cases h2 : k < n
    · rw [if_pos h2]
      have u1 := hw.2 k (by omega) h2
      have m2 := mu_b (g := k) (by omega) (by omega) hL
      omega
    · rw [if_neg h2]; omega
/-- x units come to the water k: -1 the lower reach, n the pound -/
def chW (n x k : Int) (w : Wt) : Wt := if x < 0 then (w.1, w.2.1 + k, w.2.2.1, w.2.2.2) else if x < n then (w.1, w.2.1, w.2.2.1, upZ w.2.2.2 x (w.2.2.2 x + k)) else (w.1 + k, w.2.1, w.2.2.1, w.2.2.2)
def mvW (n g k : Int) (w : Wt) : Wt := chW n (g - 1) k (chW n g (-k) w)
def canW (n L a : Int) (g : Int) (w : Wt) : Bool := if g < n then decide (g * L < lvA n L a w g) && (decide (g = 0) || decide (lvA n L a w (g - 1) < g * L)) else decide (lvA n L a w (g - 1) < lvA n L a w g)
/-- most m units flow through the sluice of the gate g, one after the other: how many do, and the water behind -/
def flW (n L a g : Int) : Nat → Wt → Int × Wt
  | 0, w => (0, w)
  | m + 1, w => if canW n L a g w = true then ((flW n L a g m (mvW n g 1 w)).1 + 1, (flW n L a g m (mvW n g 1 w)).2) else (0, w)
def tickW (k : Int) (w : Wt) : Wt := (w.1, w.2.1, w.2.2.1 + k, w.2.2.2)
theorem lvf_up (L : Int) (u : Int → Int) (x k : Int) : upZ (lvf L u) x (x * L + u x + k) = lvf L (upZ u x (u x + k)) := by
  funext z
  by_cases h : z = x
  · subst h; simp [upZ, lvf]; omega
  · simp [upZ, lvf, h]
theorem chW_WI {n L a x k : Int} {w : Wt} (hw : WI n L a w) (h1 : x < 0 ∨ (x < n → 0 ≤ w.2.2.2 x + k ∧ w.2.2.2 x + k ≤ L)) (h2 : x < n ∨ (-1000 ≤ w.1 + k ∧ w.1 + k ≤ 20 * a)) : WI n L a (chW n x k w) := by
  unfold chW
  by_cases c1 : x < 0
  · rw [if_pos c1]; exact hw
  · rw [if_neg c1]
    by_cases c2 : x < n
    · rw [if_pos c2]
      refine ⟨hw.1, fun c h0 h3 => ?_⟩
      show 0 ≤ upZ w.2.2.2 x (w.2.2.2 x + k) c ∧ upZ w.2.2.2 x (w.2.2.2 x + k) c ≤ L
      by_cases c3 : c = x
      · subst c3; rw [upZ_s]; rcases h1 with h | h
        · omega
        · exact h c2
      · rw [upZ_n _ _ _ c3]; exact hw.2 c h0 h3
    · rw [if_neg c2]
      refine ⟨?_, hw.2⟩
      rcases h2 with h | h
      · omega
      · exact h
theorem mvW_WI {n L a g : Int} {w : Wt} (hn : 1 ≤ n ∧ n ≤ 6) (hL : 5 ≤ L ∧ L ≤ 40) (ha : 1 ≤ a ∧ a ≤ 50) (hg : 0 ≤ g ∧ g ≤ n) (hw : WI n L a w) (hc : canW n L a g w = true) : WI n L a (mvW n g 1 w) := by
  unfold canW at hc
  unfold mvW
  have d1 := dv_b ha hw.1.1 hw.1.2
  have m1 := mu_m n L
  have m2 := mu_m g L
  by_cases hgn : g < n
  · rw [if_pos hgn] at hc
    simp only [Bool.and_eq_true, Bool.or_eq_true, decide_eq_true_eq] at hc
    obtain ⟨h1, h2⟩ := hc
    have u1 := hw.2 g hg.1 hgn
    have e1 : lvA n L a w g = g * L + w.2.2.2 g := by unfold lvA; rw [if_neg (by omega), if_pos hgn]
    rw [e1] at h1
    have w1 : WI n L a (chW n g (-1) w) := chW_WI hw (Or.inr fun _ => by omega) (Or.inl hgn)
    refine chW_WI w1 ?_ (Or.inl (by omega))
    by_cases g0 : g = 0
    · left; omega
    · right
      intro _
      have h3 : lvA n L a w (g - 1) < g * L := by rcases h2 with h | h; exact absurd h g0; exact h
      have u2 := hw.2 (g - 1) (by omega) (by omega)
      have e2 : lvA n L a w (g - 1) = (g - 1) * L + w.2.2.2 (g - 1) := by unfold lvA; rw [if_neg (by omega), if_pos (by omega)]
      rw [e2] at h3
      have e3 : (chW n g (-1) w).2.2.2 (g - 1) = w.2.2.2 (g - 1) := by
        unfold chW; rw [if_neg (by omega), if_pos hgn]; exact upZ_n _ _ _ (by omega)
      rw [e3]; omega
  · rw [if_neg hgn] at hc
    have hgn : g = n := by omega
    subst hgn
    have hw1 : -1000 ≤ w.1 ∧ w.1 ≤ 20 * a := hw.1
    have h1 := of_decide_eq_true hc
    have e1 : lvA g L a w g = g * L - 20 + w.1 / a := by unfold lvA; rw [if_neg (by omega), if_neg (by omega)]
    have e2 : lvA g L a w (g - 1) = (g - 1) * L + w.2.2.2 (g - 1) := by unfold lvA; rw [if_neg (by omega), if_pos (by omega)]
    have u2 := hw.2 (g - 1) (by omega) (by omega)
    rw [e1, e2] at h1
    have w9 : -19 * a ≤ w.1 := (Int.le_ediv_iff_mul_le (by omega)).mp (by omega)
    have w1 : WI g L a (chW g g (-1) w) := chW_WI hw (Or.inr fun h => by omega) (Or.inr (by omega))
    refine chW_WI w1 (Or.inr fun _ => ?_) (Or.inl (by omega))
    have e3 : (chW g g (-1) w).2.2.2 (g - 1) = w.2.2.2 (g - 1) := by
      unfold chW; rw [if_neg (by omega), if_neg (by omega)]
    rw [e3]; omega
theorem flW_WI {n L a g : Int} (hn : 1 ≤ n ∧ n ≤ 6) (hL : 5 ≤ L ∧ L ≤ 40) (ha : 1 ≤ a ∧ a ≤ 50) (hg : 0 ≤ g ∧ g ≤ n) : ∀ (m : Nat) (w : Wt), WI n L a w → WI n L a (flW n L a g m w).2 ∧ 0 ≤ (flW n L a g m w).1 ∧ (flW n L a g m w).1 ≤ m
  | 0, w, h => ⟨h, Int.le_refl 0, Int.le_refl 0⟩
  | m + 1, w, h => by
    unfold flW
    by_cases hc : canW n L a g w = true
    · rw [if_pos hc]
      have ih := flW_WI hn hL ha hg m _ (mvW_WI hn hL ha hg h hc)
      refine ⟨ih.1, ?_, ?_⟩
      · show 0 ≤ (flW n L a g m (mvW n g 1 w)).1 + 1; omega
      · show (flW n L a g m (mvW n g 1 w)).1 + 1 ≤ ((m + 1 : Nat) : Int); omega
    · rw [if_neg hc]; exact ⟨h, Int.le_refl 0, by show (0 : Int) ≤ ((m + 1 : Nat) : Int); omega⟩
-- Math.floorDiv
theorem fd_rows : (Jvm.natives.all fun r => r.cls != "java/lang/Math" || r.desc != "(II)I") = true := by decide +kernel
theorem fd_plain : plainFor yJ9_floorDiv_7cf53 = true := by
  unfold plainFor
  rw [Bool.or_eq_true]; right
  rw [Option.isNone_iff_eq_none, NativeRow.find?, List.find?_eq_none]
  intro r hr h
  have h9 := List.all_eq_true.mp fd_rows r hr
  simp only [Bool.and_eq_true, beq_iff_eq] at h
  rw [h.1.2, h.2] at h9
  exact absurd h9 (by decide)
theorem xor_sg (x y : Int32) : (x ^^^ y) < 0 ↔ ¬ ((x < 0) ↔ (y < 0)) := by
  have key : ∀ z : Int32, z < 0 ↔ z.toBitVec.msb = true := fun z => by
    rw [BitVec.msb_eq_toInt, decide_eq_true_eq, Int32.lt_iff_toInt_lt]; exact Iff.rfl
  rw [key, key, key, show (x ^^^ y).toBitVec = x.toBitVec ^^^ y.toBitVec from rfl, BitVec.msb_xor]
  cases x.toBitVec.msb <;> cases y.toBitVec.msb <;> simp
theorem iI_div {x y : Int} (hx : ib x) (hy : ib y) : iI x / iI y = iI (x.tdiv y) := (Int32.ofInt_tdiv (by exact hx.1) (by have := hx.2; show x ≤ 2147483647; omega) (by exact hy.1) (by have := hy.2; show y ≤ 2147483647; omega)).symm
set_option maxRecDepth 100000 in
set_option maxHeartbeats 4000000 in
theorem c_J9_floorDiv_7cf53 {l : Launch} {D : va_G} {tys : tyL} (x y : Int) (hx0 : -1000000 ≤ x ∧ x ≤ 1000000) (hy0 : 1 ≤ y ∧ y ≤ 1000000) : Di l yJ9_floorDiv_7cf53 wsJ9_floorDiv_7cf53 1 [.int (iI x), .int (iI y)] D tys [] (x / y) [] := by
  refine ct_i (fd_plain) rfl (Nat.le_of_ble_eq_true rfl) ?_
  intro p e s m args below meth c ls A hx hb hr hml hts hown hlocks hin hA hP hK hD hNW hS hl Q hQ
  have hl : lv_has ls 3 [(0, .int (iI x)), (1, .int (iI y))] := hl
  have bx : ib x := ib_i (by omega) (by omega)
  have bY : ib y := ib_i (by omega) (by omega)
  have t1 := Int.mul_tdiv_add_tmod x y
  have e1 := Int.mul_ediv_add_emod x y
  have e2 := Int.emod_nonneg x (b := y) (by omega)
  have e3 := Int.emod_lt_of_pos x (b := y) (by omega)
  have q0 : -1000000 ≤ x.tdiv y ∧ x.tdiv y ≤ 1000000 := by
    rcases Int.le_total 0 x with h | h
    · rw [Int.tdiv_eq_ediv_of_nonneg h]
      exact ⟨by have := Int.ediv_nonneg h (show 0 ≤ y by omega); omega, by have := Int.ediv_le_self y h; omega⟩
    · obtain ⟨z, rfl⟩ : ∃ z, x = -z := ⟨-x, by omega⟩
      rw [Int.neg_tdiv, Int.tdiv_eq_ediv_of_nonneg (by omega)]
      have k1 := Int.ediv_nonneg (show 0 ≤ z by omega) (show 0 ≤ y by omega)
      have k2 := Int.ediv_le_self y (show 0 ≤ z by omega)
      omega
  refine lv_iload_n hx hb dJ9_floorDiv_7cf53_0 rfl (lv_at hl 0 rfl) ?_
  refine lv_iload_n hx hb dJ9_floorDiv_7cf53_1 rfl (lv_at hl 1 rfl) ?_
  refine lv_idiv hx hb dJ9_floorDiv_7cf53_2 (fun h => by have := (iI_eq bY ib_0).mp h; omega) ?_
  refine li_topI (b := x.tdiv y) (iI_div bx bY) ?_
  refine lv_istore_n (lv' := [(2, .int (iI (x.tdiv y))), (0, .int (iI x)), (1, .int (iI y))]) hx hb dJ9_floorDiv_7cf53_3 rfl hl (by decide) rfl (fun ls hl => ?_)
  refine lv_iload_n hx hb dJ9_floorDiv_7cf53_4 rfl (lv_at hl 1 rfl) ?_
  refine lv_iload_n hx hb dJ9_floorDiv_7cf53_5 rfl (lv_at hl 2 rfl) ?_
  refine lv_ixor hx hb dJ9_floorDiv_7cf53_6 ?_
  have hsx : iI x < 0 ↔ x < 0 := iI_lt bx ib_0
  have hsy : ¬ iI y < 0 := fun h => by have := (iI_lt bY ib_0).mp h; omega
  have hxs := xor_sg (iI x) (iI y)
  have fin1 : ∀ ls, lv_has ls 3 [(2, .int (iI (x.tdiv y))), (0, .int (iI x)), (1, .int (iI y))] → x.tdiv y = x / y → W p l e (rK 1 0 0) s m args below meth c s.heap [] 0 0 Q (F0 m 21 ls []) := by
    intro ls hl he
    refine lv_iload_n hx hb dJ9_floorDiv_7cf53_21 rfl (lv_at hl 0 rfl) ?_
    exact li_iret () hx hb hr hlocks hK hP hD hS dJ9_floorDiv_7cf53_22 hQ rfl (congrArg iI he)
  refine lv_if_ge (tgt := 21) hx hb dJ9_floorDiv_7cf53_7 (by decide) (fun c7 => ?_) (fun c7 => ?_)
  · have hxp : 0 ≤ x := by
      rcases Int.lt_or_le x 0 with h | h
      · exact absurd (hxs.mpr (fun q => hsy (q.mp (hsx.mpr h)))) (by rw [Int32.not_lt]; exact c7)
      · exact h
    exact fin1 ls hl (Int.tdiv_eq_ediv_of_nonneg hxp)
  · have hxn : x < 0 := by
      have h1 := hxs.mp (by rw [← Int32.not_le]; exact c7)
      rcases Int.lt_or_le x 0 with h | h
      · exact h
      · exact absurd ⟨fun q => absurd (hsx.mp q) (by omega), fun q => absurd q hsy⟩ h1
    obtain ⟨z, rfl⟩ : ∃ z, x = -z := ⟨-x, by omega⟩
    have tz : (-z).tdiv y = -(z / y) := by rw [Int.neg_tdiv, Int.tdiv_eq_ediv_of_nonneg (by omega)]
    have z1 := Int.mul_ediv_add_emod z y
    have z2 := Int.emod_nonneg z (b := y) (by omega)
    have z3 := Int.emod_lt_of_pos z (b := y) (by omega)
    refine lv_iload_n hx hb dJ9_floorDiv_7cf53_10 rfl (lv_at hl 0 rfl) ?_
    refine lv_iload_n hx hb dJ9_floorDiv_7cf53_11 rfl (lv_at hl 2 rfl) ?_
    refine li_mul hx hb dJ9_floorDiv_7cf53_12 ?_
    refine lv_iload_n hx hb dJ9_floorDiv_7cf53_13 rfl (lv_at hl 1 rfl) ?_
    have pr : (-z).tdiv y * y = -(z - z % y) := by rw [tz, Int.neg_mul, Int.mul_comm]; omega
    refine li_top (b := -z) rfl ?_
    refine li_icmp_eq (tgt := 21) hx hb dJ9_floorDiv_7cf53_14 (by decide) (ib_i (by rw [pr]; omega) (by rw [pr]; omega)) bx (fun c14 => ?_) (fun c14 => ?_)
    · refine fin1 ls hl ?_
      have h0 : z % y = 0 := by rw [pr] at c14; omega
      rw [tz]
      exact (Int.ediv_eq_of_eq_mul_left (by omega) (by rw [Int.neg_mul, Int.mul_comm]; omega)).symm
    · refine lv_iload_n hx hb dJ9_floorDiv_7cf53_17 rfl (lv_at hl 0 rfl) ?_
      refine li_const hx hb dJ9_floorDiv_7cf53_18 ?_
      refine li_sub hx hb dJ9_floorDiv_7cf53_19 ?_
      refine li_iret () hx hb hr hlocks hK hP hD hS dJ9_floorDiv_7cf53_20 hQ rfl (congrArg iI ?_)
      have h0 : z % y ≠ 0 := by intro h; apply c14; rw [pr]; omega
      rw [tz]
      have a1 : (-(z / y) - 1) * y + (y - z % y) = -z := by rw [Int.sub_mul, Int.neg_mul, Int.one_mul, Int.mul_comm]; omega
      have a2 : (-z) / y = -(z / y) - 1 := by
        rw [← a1, Int.add_comm, Int.add_mul_ediv_right _ _ (by omega), Int.ediv_eq_zero_of_lt (by omega) (by omega)]; omega
      rw [a2]
theorem flW_0 (n L a g : Int) (w : Wt) : flW n L a g 0 w = (0, w) := rfl
theorem flW_t {n L a g : Int} {w : Wt} (m : Nat) (h : canW n L a g w = true) : flW n L a g (m + 1) w = ((flW n L a g m (mvW n g 1 w)).1 + 1, (flW n L a g m (mvW n g 1 w)).2) := by
  show (if canW n L a g w = true then ((flW n L a g m (mvW n g 1 w)).1 + 1, (flW n L a g m (mvW n g 1 w)).2) else (0, w)) = _
  rw [if_pos h]
theorem flW_f {n L a g : Int} {w : Wt} (m : Nat) (h : canW n L a g w = false) : flW n L a g m w = (0, w) := by
  cases m with
  | zero => rfl
  | succ m => unfold flW; rw [if_neg (by rw [h]; decide)]
def spA (a W x : Int) : Int := if 0 < W + x - 20 * a then W + x - 20 * a else 0
/-- a sluice is run for at most m units, 20 a minute -/
def rnW (n L a g : Int) (m : Nat) (w : Wt) : Wt := tickW (((flW n L a g m w).1 + (if (flW n L a g m w).1 < (m : Int) then 20 else 19)) / 20) (flW n L a g m w).2
def mn20 (x : Int) : Int := if 20 < x then 20 else x
/-- the same, minute by minute -/
def rsW (n L a g : Int) : Nat → Int → Wt → Wt
  | 0, _, w => w
  | f + 1, left, w => if 0 < left then (if (flW n L a g (mn20 left).toNat w).1 < mn20 left then tickW 1 (flW n L a g (mn20 left).toNat w).2 else rsW n L a g f (left - (flW n L a g (mn20 left).toNat w).1) (tickW 1 (flW n L a g (mn20 left).toNat w).2)) else w
def FU : Nat := 100000
def itW (f : Wt → Wt) (c t : Int) : Nat → Wt → Wt
  | 0, w => w
  | m + 1, w => if t < w.2.2.2 c then itW f c t m (f w) else w
/-- the chamber below is emptied first, if it is full -/
def pdW (L : Int) (lo : Wt → Wt) (c : Int) (w : Wt) : Wt := if 0 < c ∧ L ≤ w.2.2.2 (c - 1) then lo w else w
def loS (n L a : Int) (lo : Wt → Wt) (c t : Int) (w : Wt) : Wt := rnW n L a c ((pdW L lo c w).2.2.2 c - t).toNat (pdW L lo c w)
/-- the chamber c is lowered to t units -/
def loM (n L a : Int) : Nat → Int → Wt → Wt
  | 0, t, w => itW (loS n L a id 0 t) 0 t FU w
  | c + 1, t, w => itW (loS n L a (loM n L a c 0) ((c + 1 : Nat) : Int) t) ((c + 1 : Nat) : Int) t FU w
/-- the chamber c = n - 1 - d is raised to t units: whether it is, and the water behind -/
def raM (n L a : Int) : Nat → Int → Int → Wt → Bool × Wt
  | 0, c, t, w => if t ≤ w.2.2.2 c then (true, w) else (decide (t ≤ (rnW n L a (c + 1) (t - w.2.2.2 c).toNat w).2.2.2 c), rnW n L a (c + 1) (t - w.2.2.2 c).toNat w)
  | d + 1, c, t, w => if t ≤ w.2.2.2 c then (true, w) else if (raM n L a d (c + 1) (t - w.2.2.2 c) w).1 = true then (decide (t ≤ (rnW n L a (c + 1) (t - w.2.2.2 c).toNat (raM n L a d (c + 1) (t - w.2.2.2 c) w).2).2.2.2 c), rnW n L a (c + 1) (t - w.2.2.2 c).toNat (raM n L a d (c + 1) (t - w.2.2.2 c) w).2) else (false, (raM n L a d (c + 1) (t - w.2.2.2 c) w).2)
/-- a gate below the highest is levelled -/
def lvG (n L a g : Int) (w : Wt) : Bool × Wt := if g = 0 then (true, loM n L a g.toNat 0 w) else raM n L a (n - g).toNat (g - 1) L (loM n L a g.toNat 0 w)
/-- the highest gate is levelled -/
def lhM (n L a : Int) : Nat → Wt → Bool × Wt
  | 0, w => (decide (hdA n L a w n = 0), w)
  | m + 1, w => if hdA n L a w n = 0 then (true, w) else if lvA n L a w n < (n - 1) * L then (false, w) else if 0 < hdA n L a w n then lhM n L a m (tickW 1 (flW n L a n 20 w).2) else lhM n L a m (loM n L a (n - 1).toNat (lvA n L a w n - (n - 1) * L) w)
theorem tickW_WI {n L a k : Int} {w : Wt} (h : WI n L a w) : WI n L a (tickW k w) := h
theorem rnW_WI {n L a g : Int} (hn : 1 ≤ n ∧ n ≤ 6) (hL : 5 ≤ L ∧ L ≤ 40) (ha : 1 ≤ a ∧ a ≤ 50) (hg : 0 ≤ g ∧ g ≤ n) (m : Nat) {w : Wt} (h : WI n L a w) : WI n L a (rnW n L a g m w) := (flW_WI hn hL ha hg m w h).1
theorem itW_WI {n L a : Int} {f : Wt → Wt} (hf : ∀ w, WI n L a w → WI n L a (f w)) (c t : Int) : ∀ (m : Nat) (w : Wt), WI n L a w → WI n L a (itW f c t m w)
  | 0, _, h => h
  | m + 1, w, h => by
    unfold itW
    by_cases q : t < w.2.2.2 c
    · rw [if_pos q]; exact itW_WI hf c t m _ (hf w h)
    · rw [if_neg q]; exact h
theorem pdW_WI {n L a : Int} {lo : Wt → Wt} (hlo : ∀ w, WI n L a w → WI n L a (lo w)) (c : Int) {w : Wt} (h : WI n L a w) : WI n L a (pdW L lo c w) := by
  unfold pdW
  by_cases q : 0 < c ∧ L ≤ w.2.2.2 (c - 1)
  · rw [if_pos q]; exact hlo w h
  · rw [if_neg q]; exact h
theorem loM_WI {n L a : Int} (hn : 1 ≤ n ∧ n ≤ 6) (hL : 5 ≤ L ∧ L ≤ 40) (ha : 1 ≤ a ∧ a ≤ 50) : ∀ (c : Nat) (t : Int) (w : Wt), (c : Int) ≤ n → WI n L a w → WI n L a (loM n L a c t w)
  | 0, t, w, hc, h => by
    unfold loM
    exact itW_WI (fun w h => rnW_WI hn hL ha (by omega) _ (pdW_WI (fun _ q => q) _ h)) _ _ _ _ h
  | c + 1, t, w, hc, h => by
    unfold loM
    exact itW_WI (fun w h => rnW_WI hn hL ha (by omega) _ (pdW_WI (fun w q => loM_WI hn hL ha c 0 w (by omega) q) _ h)) _ _ _ _ h
theorem raM_WI {n L a : Int} (hn : 1 ≤ n ∧ n ≤ 6) (hL : 5 ≤ L ∧ L ≤ 40) (ha : 1 ≤ a ∧ a ≤ 50) : ∀ (d : Nat) (c t : Int) (w : Wt), 0 ≤ c → c + d < n → WI n L a w → WI n L a (raM n L a d c t w).2
  | 0, c, t, w, h0, hc, h => by
    unfold raM
    by_cases q : t ≤ w.2.2.2 c
    · rw [if_pos q]; exact h
    · rw [if_neg q]; exact rnW_WI hn hL ha (by omega) _ h
  | d + 1, c, t, w, h0, hc, h => by
    unfold raM
    have ih := raM_WI hn hL ha d (c + 1) (t - w.2.2.2 c) w (by omega) (by omega) h
    by_cases q : t ≤ w.2.2.2 c
    · rw [if_pos q]; exact h
    · rw [if_neg q]
      by_cases q2 : (raM n L a d (c + 1) (t - w.2.2.2 c) w).1 = true
      · rw [if_pos q2]; exact rnW_WI hn hL ha (by omega) _ ih
      · rw [if_neg q2]; exact ih
theorem lvA_c {n L a k : Int} {w : Wt} (h0 : 0 ≤ k) (h1 : k < n) : lvA n L a w k = k * L + w.2.2.2 k := by unfold lvA; rw [if_neg (by omega), if_pos h1]
theorem lvA_n {n L a : Int} {w : Wt} (hn : 1 ≤ n ∧ n ≤ 6) : lvA n L a w n = n * L - 20 + w.1 / a := by unfold lvA; rw [if_neg (by omega), if_neg (by omega)]
theorem lvA_m {n L a k : Int} {w : Wt} (h : k < 0) : lvA n L a w k = 0 := by unfold lvA; rw [if_pos h]
theorem itW_t {f : Wt → Wt} {c t : Int} {w : Wt} (m : Nat) (h : t < w.2.2.2 c) : itW f c t (m + 1) w = itW f c t m (f w) := by
  show (if t < w.2.2.2 c then itW f c t m (f w) else w) = _
  rw [if_pos h]
theorem itW_f {f : Wt → Wt} {c t : Int} {w : Wt} (m : Nat) (h : ¬ t < w.2.2.2 c) : itW f c t m w = w := by
  cases m with
  | zero => rfl
  | succ m => show (if t < w.2.2.2 c then itW f c t m (f w) else w) = _; rw [if_neg h]
theorem itW_0 (f : Wt → Wt) (c t : Int) (w : Wt) : itW f c t 0 w = w := rfl
theorem loS_a {n L a c t : Int} {lo : Wt → Wt} {w : Wt} (h : ¬ (0 < c ∧ L ≤ w.2.2.2 (c - 1))) : loS n L a lo c t w = rnW n L a c (w.2.2.2 c - t).toNat w := by unfold loS pdW; rw [if_neg h]
theorem loS_b {n L a c t : Int} {lo : Wt → Wt} {w : Wt} (h : 0 < c ∧ L ≤ w.2.2.2 (c - 1)) : loS n L a lo c t w = rnW n L a c ((lo w).2.2.2 c - t).toNat (lo w) := by unfold loS pdW; rw [if_pos h]
theorem loM_eq (n L a : Int) {c : Int} (hc : 0 ≤ c) (t : Int) (w : Wt) : loM n L a c.toNat t w = itW (loS n L a (loM n L a (c - 1).toNat 0) c t) c t FU w := by
  obtain ⟨k, rfl⟩ : ∃ k : Nat, c = (k : Int) := ⟨c.toNat, by omega⟩
  cases k with
  | zero =>
    show itW (loS n L a id 0 t) 0 t FU w = itW (loS n L a (loM n L a 0 0) 0 t) 0 t FU w
    have e : loS n L a id 0 t = loS n L a (loM n L a 0 0) 0 t := by
      funext v
      rw [loS_a (fun h => by omega), loS_a (fun h => by omega)]
    rw [e]
  | succ k =>
    have e : (((k + 1 : Nat) : Int) - 1).toNat = k := by omega
    have e2 : (((k + 1 : Nat) : Int)).toNat = k + 1 := by omega
    rw [e, e2]
    rfl
theorem raM_t {n L a c t : Int} {w : Wt} (d : Nat) (h : t ≤ w.2.2.2 c) : raM n L a d c t w = (true, w) := by
  cases d <;> (unfold raM; rw [if_pos h])
theorem raM_z {n L a c t : Int} {w : Wt} {d : Nat} (hd : d = 0) (h : ¬ t ≤ w.2.2.2 c) : raM n L a d c t w = (decide (t ≤ (rnW n L a (c + 1) (t - w.2.2.2 c).toNat w).2.2.2 c), rnW n L a (c + 1) (t - w.2.2.2 c).toNat w) := by
  subst hd; unfold raM; rw [if_neg h]
theorem raM_r {n L a c t : Int} {w : Wt} {d : Nat} (hd : 0 < d) (h : ¬ t ≤ w.2.2.2 c) (hf : ¬ (raM n L a (d - 1) (c + 1) (t - w.2.2.2 c) w).1 = true) : raM n L a d c t w = (false, (raM n L a (d - 1) (c + 1) (t - w.2.2.2 c) w).2) := by
  obtain ⟨k, rfl⟩ : ∃ k, d = k + 1 := ⟨d - 1, by omega⟩
  have e : k + 1 - 1 = k := by omega
  rw [e] at hf ⊢
  show (if t ≤ w.2.2.2 c then (true, w) else if (raM n L a k (c + 1) (t - w.2.2.2 c) w).1 = true then _ else _) = _
  rw [if_neg h, if_neg hf]
theorem raM_k {n L a c t : Int} {w : Wt} {d : Nat} (hd : 0 < d) (h : ¬ t ≤ w.2.2.2 c) (hf : (raM n L a (d - 1) (c + 1) (t - w.2.2.2 c) w).1 = true) : raM n L a d c t w = (decide (t ≤ (rnW n L a (c + 1) (t - w.2.2.2 c).toNat (raM n L a (d - 1) (c + 1) (t - w.2.2.2 c) w).2).2.2.2 c), rnW n L a (c + 1) (t - w.2.2.2 c).toNat (raM n L a (d - 1) (c + 1) (t - w.2.2.2 c) w).2) := by
  obtain ⟨k, rfl⟩ : ∃ k, d = k + 1 := ⟨d - 1, by omega⟩
  have e : k + 1 - 1 = k := by omega
  rw [e] at hf ⊢
  show (if t ≤ w.2.2.2 c then (true, w) else if (raM n L a k (c + 1) (t - w.2.2.2 c) w).1 = true then _ else _) = _
  rw [if_neg h, if_pos hf]
theorem lhM_z {n L a : Int} {w : Wt} (m : Nat) (h : hdA n L a w n = 0) : lhM n L a m w = (true, w) := by
  cases m with
  | zero => show (decide (hdA n L a w n = 0), w) = _; rw [decide_eq_true h]
  | succ m => unfold lhM; rw [if_pos h]
theorem lhM_0 (n L a : Int) (w : Wt) : lhM n L a 0 w = (decide (hdA n L a w n = 0), w) := rfl
theorem lhM_b {n L a : Int} {w : Wt} (m : Nat) (h : ¬ hdA n L a w n = 0) (h2 : lvA n L a w n < (n - 1) * L) : lhM n L a (m + 1) w = (false, w) := by
  unfold lhM; rw [if_neg h, if_pos h2]
theorem lhM_u {n L a : Int} {w : Wt} (m : Nat) (h : ¬ hdA n L a w n = 0) (h2 : ¬ lvA n L a w n < (n - 1) * L) (h3 : 0 < hdA n L a w n) : lhM n L a (m + 1) w = lhM n L a m (tickW 1 (flW n L a n 20 w).2) := by
  show (if hdA n L a w n = 0 then (true, w) else if lvA n L a w n < (n - 1) * L then (false, w) else if 0 < hdA n L a w n then lhM n L a m (tickW 1 (flW n L a n 20 w).2) else _) = _
  rw [if_neg h, if_neg h2, if_pos h3]
theorem lhM_d {n L a : Int} {w : Wt} (m : Nat) (h : ¬ hdA n L a w n = 0) (h2 : ¬ lvA n L a w n < (n - 1) * L) (h3 : ¬ 0 < hdA n L a w n) : lhM n L a (m + 1) w = lhM n L a m (loM n L a (n - 1).toNat (lvA n L a w n - (n - 1) * L) w) := by
  show (if hdA n L a w n = 0 then (true, w) else if lvA n L a w n < (n - 1) * L then (false, w) else if 0 < hdA n L a w n then _ else lhM n L a m (loM n L a (n - 1).toNat (lvA n L a w n - (n - 1) * L) w)) = _
  rw [if_neg h, if_neg h2, if_neg h3]
def sumZ (f : Int → Int) : Nat → Int
  | 0 => 0
  | k + 1 => sumZ f k + f k
theorem sumZ_0 (f : Int → Int) : sumZ f (0 : Int).toNat = 0 := rfl
theorem sumZ_s (f : Int → Int) {j : Int} (h : 0 ≤ j) : sumZ f (j + 1).toNat = sumZ f j.toNat + f j := by
  have e : (j + 1).toNat = j.toNat + 1 := by omega
  rw [e]; show sumZ f j.toNat + f ((j.toNat : Nat) : Int) = _
  rw [Int.toNat_of_nonneg h]
theorem rsW_0 (n L a g left : Int) (w : Wt) : rsW n L a g 0 left w = w := rfl
theorem rsW_z {n L a g left : Int} {w : Wt} (f : Nat) (h : ¬ 0 < left) : rsW n L a g f left w = w := by
  cases f with
  | zero => rfl
  | succ f => unfold rsW; rw [if_neg h]
theorem rsW_a {n L a g left : Int} {w : Wt} (f : Nat) (h : 0 < left) (h2 : (flW n L a g (mn20 left).toNat w).1 < mn20 left) : rsW n L a g (f + 1) left w = tickW 1 (flW n L a g (mn20 left).toNat w).2 := by
  unfold rsW; rw [if_pos h, if_pos h2]
theorem rsW_b {n L a g left : Int} {w : Wt} (f : Nat) (h : 0 < left) (h2 : ¬ (flW n L a g (mn20 left).toNat w).1 < mn20 left) : rsW n L a g (f + 1) left w = rsW n L a g f (left - (flW n L a g (mn20 left).toNat w).1) (tickW 1 (flW n L a g (mn20 left).toNat w).2) := by
  show (if 0 < left then (if (flW n L a g (mn20 left).toNat w).1 < mn20 left then _ else rsW n L a g f (left - (flW n L a g (mn20 left).toNat w).1) (tickW 1 (flW n L a g (mn20 left).toNat w).2)) else w) = _
  rw [if_pos h, if_neg h2]
