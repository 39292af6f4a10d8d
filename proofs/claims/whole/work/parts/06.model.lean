-- the ladder in whole numbers: water, lost, clock, units by chamber
abbrev Wt : Type := Int × Int × Int × (Int → Int)
abbrev Rt : Type := Int × Int × Int × Int
def lvf (L : Int) (u : Int → Int) : Int → Int := fun z => z * L + u z
abbrev ty3 (cI cZ cJ : ClassId) : tyL := [(cI, .int), (cZ, .boolean), (cJ, .long)]
abbrev cWa (cI : ClassId) (n L a gd : Int) (w : Wt) (h0 h1 : Nat) : va_W := [(h0, .inr (4, [.int (iI L), .int (iI a), .ref h1, .int (iI (n * L - 20)), .int (iI w.1), .int (iI w.2.1), .int (iI gd), .int (iI w.2.2.1)])), (h1, .inl (cI, n.toNat, .inl (aZ (lvf L w.2.2.2))))]
abbrev cGa (cI cZ : ClassId) (op tn : Int → Int) (h0 h1 h2 : Nat) : va_W := [(h0, .inr (1, [.ref h1, .ref h2])), (h1, .inl (cZ, 7, .inl (aZ op))), (h2, .inl (cI, 7, .inl (aZ tn)))]
abbrev cFl (cI : ClassId) (cnt : Int) (ln dr pl : Int → Int) (h0 h1 h2 h3 : Nat) : va_W := [(h0, .inr (0, [.ref h1, .ref h2, .ref h3, .int (iI cnt)])), (h1, .inl (cI, 10, .inl (aZ ln))), (h2, .inl (cI, 10, .inl (aZ dr))), (h3, .inl (cI, 10, .inl (aZ pl)))]
abbrev cRp (rp : Rt) (h0 : Nat) : va_W := [(h0, .inr (3, [.int (iI rp.1), .int (iI rp.2.1), .int (iI rp.2.2.1), .int (iI rp.2.2.2)]))]
abbrev cLa (h0 hw hg hf hr : Nat) : va_W := [(h0, .inr (2, [.ref hw, .ref hg, .ref hf, .ref hr]))]
abbrev cLs (h0 hl ht : Nat) : va_W := [(h0, .inr (5, [.ref hl, .ref ht]))]
abbrev cMd (cI : ClassId) (n L a rn sp cnt th : Int) (row as ln dr : Int → Int) (h0 h1 h2 h3 h4 : Nat) : va_W := [(h0, .inr (6, [.int (iI n), .int (iI L), .int (iI a), .int (iI rn), .int (iI sp), .ref h1, .ref h2, .ref h3, .ref h4, .int (iI cnt), .int (iI th)])), (h1, .inl (cI, 50, .inl (aZ row))), (h2, .inl (cI, 50, .inl (aZ as))), (h3, .inl (cI, 10, .inl (aZ ln))), (h4, .inl (cI, 10, .inl (aZ dr)))]
theorem mu_b {g L : Int} (h0 : -1 ≤ g) (h1 : g ≤ 7) (hL : 5 ≤ L ∧ L ≤ 40) : -40 ≤ g * L ∧ g * L ≤ 280 := by
  have a1 : g * L ≤ 7 * L := Int.mul_le_mul_of_nonneg_right h1 (by omega)
  have a2 : (-1) * L ≤ g * L := Int.mul_le_mul_of_nonneg_right h0 (by omega)
  omega
theorem mu_l {g h L : Int} (h1 : g ≤ h) (hL : 5 ≤ L ∧ L ≤ 40) : g * L ≤ h * L := Int.mul_le_mul_of_nonneg_right h1 (by omega)
theorem mu_1 (g L : Int) : (g + 1) * L = g * L + L := by rw [Int.add_mul, Int.one_mul]
theorem mu_m (g L : Int) : (g - 1) * L = g * L - L := by rw [Int.sub_mul, Int.one_mul]
theorem dv_b {x a : Int} (ha : 1 ≤ a ∧ a ≤ 50) (h0 : -1000 ≤ x) (h1 : x ≤ 20 * a) : -1000 ≤ x / a ∧ x / a ≤ 20 := by
  constructor
  · have h2 : -1000 * a ≤ x := by omega
    exact (Int.le_ediv_iff_mul_le (by omega)).mpr h2
  · exact Int.le_of_lt_add_one ((Int.ediv_lt_iff_lt_mul (by omega)).mpr (by rw [mu_1]; omega))
def lvA (n L a : Int) (w : Wt) (k : Int) : Int := if k < 0 then 0 else if k < n then k * L + w.2.2.2 k else n * L - 20 + w.1 / a
def hdA (n L a : Int) (w : Wt) (g : Int) : Int := lvA n L a w g - lvA n L a w (g - 1)
def WI (n L a : Int) (w : Wt) : Prop := (-1000 ≤ w.1 ∧ w.1 ≤ 20 * a) ∧ ∀ c, 0 ≤ c → c < n → 0 ≤ w.2.2.2 c ∧ w.2.2.2 c ≤ L
theorem lvA_b {n L a : Int} {w : Wt} (hn : 1 ≤ n ∧ n ≤ 6) (hL : 5 ≤ L ∧ L ≤ 40) (ha : 1 ≤ a ∧ a ≤ 50) (hw : WI n L a w) (k : Int) (hk : k ≤ n) : -2000 ≤ lvA n L a w k ∧ lvA n L a w k ≤ 2000 := by
  unfold lvA
  have d1 := dv_b ha hw.1.1 hw.1.2
  have m1 := mu_b (g := n) (by omega) (by omega) hL
  by_cases h : k < 0
  · rw [if_pos h]; omega
  · rw [if_neg h]
    by_cases h2 : k < n
    · rw [if_pos h2]
      have u1 := hw.2 k (by omega) h2
      have m2 := mu_b (g := k) (by omega) (by omega) hL
      omega
    · rw [if_neg h2]; omega
/-- x units come to the water k: -1 the lower reach, n the pound -/
def chW (n x k : Int) (w : Wt) : Wt := if x < 0 then (w.1, w.2.1 + k, w.2.2.1, w.2.2.2) else if x < n then (w.1, w.2.1, w.2.2.1, upZ w.2.2.2 x (w.2.2.2 x + k)) else (w.1 + k, w.2.1, w.2.2.1, w.2.2.2)
def mvW (n g k : Int) (w : Wt) : Wt := chW n (g - 1) k (chW n g (-k) w)
def canW (n L a : Int) (g : Int) (w : Wt) : Bool := if g < n then decide (g * L < lvA n L a w g) && (decide (g = 0) || decide (lvA n L a w (g - 1) < g * L)) else decide (lvA n L a w (g - 1) < lvA n L a w g)
/-- most m units flow through the sluice of the gate g, one after the other: how many do, and the water behind -/
def flW (n L a g : Int) : Nat → Wt → Int × Wt
  | 0, w => (0, w)
  | m + 1, w => if canW n L a g w = true then ((flW n L a g m (mvW n g 1 w)).1 + 1, (flW n L a g m (mvW n g 1 w)).2) else (0, w)
def tickW (k : Int) (w : Wt) : Wt := (w.1, w.2.1, w.2.2.1 + k, w.2.2.2)
theorem lvf_up (L : Int) (u : Int → Int) (x k : Int) : upZ (lvf L u) x (x * L + u x + k) = lvf L (upZ u x (u x + k)) := by
  funext z
  by_cases h : z = x
  · subst h; simp [upZ, lvf]; omega
  · simp [upZ, lvf, h]
theorem chW_WI {n L a x k : Int} {w : Wt} (hw : WI n L a w) (h1 : x < 0 ∨ (x < n → 0 ≤ w.2.2.2 x + k ∧ w.2.2.2 x + k ≤ L)) (h2 : x < n ∨ (-1000 ≤ w.1 + k ∧ w.1 + k ≤ 20 * a)) : WI n L a (chW n x k w) := by
  unfold chW
  by_cases c1 : x < 0
  · rw [if_pos c1]; exact hw
  · rw [if_neg c1]
    by_cases c2 : x < n
    · rw [if_pos c2]
      refine ⟨hw.1, fun c h0 h3 => ?_⟩
      show 0 ≤ upZ w.2.2.2 x (w.2.2.2 x + k) c ∧ upZ w.2.2.2 x (w.2.2.2 x + k) c ≤ L
      by_cases c3 : c = x
      · subst c3; rw [upZ_s]; rcases h1 with h | h
        · omega
        · exact h c2
      · rw [upZ_n _ _ _ c3]; exact hw.2 c h0 h3
    · rw [if_neg c2]
      refine ⟨?_, hw.2⟩
      rcases h2 with h | h
      · omega
      · exact h
theorem mvW_WI {n L a g : Int} {w : Wt} (hn : 1 ≤ n ∧ n ≤ 6) (hL : 5 ≤ L ∧ L ≤ 40) (ha : 1 ≤ a ∧ a ≤ 50) (hg : 0 ≤ g ∧ g ≤ n) (hw : WI n L a w) (hc : canW n L a g w = true) : WI n L a (mvW n g 1 w) := by
  unfold canW at hc
  unfold mvW
  have d1 := dv_b ha hw.1.1 hw.1.2
  have m1 := mu_m n L
  have m2 := mu_m g L
  by_cases hgn : g < n
  · rw [if_pos hgn] at hc
    simp only [Bool.and_eq_true, Bool.or_eq_true, decide_eq_true_eq] at hc
    obtain ⟨h1, h2⟩ := hc
    have u1 := hw.2 g hg.1 hgn
    have e1 : lvA n L a w g = g * L + w.2.2.2 g := by unfold lvA; rw [if_neg (by omega), if_pos hgn]
    rw [e1] at h1
    have w1 : WI n L a (chW n g (-1) w) := chW_WI hw (Or.inr fun _ => by omega) (Or.inl hgn)
    refine chW_WI w1 ?_ (Or.inl (by omega))
    by_cases g0 : g = 0
    · left; omega
    · right
      intro _
      have h3 : lvA n L a w (g - 1) < g * L := by rcases h2 with h | h; exact absurd h g0; exact h
      have u2 := hw.2 (g - 1) (by omega) (by omega)
      have e2 : lvA n L a w (g - 1) = (g - 1) * L + w.2.2.2 (g - 1) := by unfold lvA; rw [if_neg (by omega), if_pos (by omega)]
      rw [e2] at h3
      have e3 : (chW n g (-1) w).2.2.2 (g - 1) = w.2.2.2 (g - 1) := by
        unfold chW; rw [if_neg (by omega), if_pos hgn]; exact upZ_n _ _ _ (by omega)
      rw [e3]; omega
  · rw [if_neg hgn] at hc
    have hgn : g = n := by omega
    subst hgn
    have h1 := of_decide_eq_true hc
    have e1 : lvA g L a w g = g * L - 20 + w.1 / a := by unfold lvA; rw [if_neg (by omega), if_neg (by omega)]
    have e2 : lvA g L a w (g - 1) = (g - 1) * L + w.2.2.2 (g - 1) := by unfold lvA; rw [if_neg (by omega), if_pos (by omega)]
    have u2 := hw.2 (g - 1) (by omega) (by omega)
    rw [e1, e2] at h1
    have w9 : -19 * a ≤ w.1 := (Int.le_ediv_iff_mul_le (by omega)).mp (by omega)
    have w1 : WI g L a (chW g g (-1) w) := chW_WI hw (Or.inr fun h => by omega) (Or.inr (by omega))
    refine chW_WI w1 (Or.inr fun _ => ?_) (Or.inl (by omega))
    have e3 : (chW g g (-1) w).2.2.2 (g - 1) = w.2.2.2 (g - 1) := by
      unfold chW; rw [if_neg (by omega), if_neg (by omega)]
    rw [e3]; omega
theorem flW_WI {n L a g : Int} (hn : 1 ≤ n ∧ n ≤ 6) (hL : 5 ≤ L ∧ L ≤ 40) (ha : 1 ≤ a ∧ a ≤ 50) (hg : 0 ≤ g ∧ g ≤ n) : ∀ (m : Nat) (w : Wt), WI n L a w → WI n L a (flW n L a g m w).2 ∧ 0 ≤ (flW n L a g m w).1 ∧ (flW n L a g m w).1 ≤ m
  | 0, w, h => ⟨h, Int.le_refl 0, Int.le_refl 0⟩
  | m + 1, w, h => by
    unfold flW
    by_cases hc : canW n L a g w = true
    · rw [if_pos hc]
      have ih := flW_WI hn hL ha hg m _ (mvW_WI hn hL ha hg h hc)
      refine ⟨ih.1, ?_, ?_⟩
      · show 0 ≤ (flW n L a g m (mvW n g 1 w)).1 + 1; omega
      · show (flW n L a g m (mvW n g 1 w)).1 + 1 ≤ ((m + 1 : Nat) : Int); omega
    · rw [if_neg hc]; exact ⟨h, Int.le_refl 0, by show (0 : Int) ≤ ((m + 1 : Nat) : Int); omega⟩
-- Math.floorDiv
theorem xor_sg (x y : Int32) : (x ^^^ y) < 0 ↔ ¬ ((x < 0) ↔ (y < 0)) := by
  have key : ∀ z : Int32, z < 0 ↔ z.toBitVec.msb = true := fun z => by
    rw [BitVec.msb_eq_toInt, decide_eq_true_eq, Int32.lt_iff_toInt_lt]; exact Iff.rfl
  rw [key, key, key, show (x ^^^ y).toBitVec = x.toBitVec ^^^ y.toBitVec from rfl, BitVec.msb_xor]
  cases x.toBitVec.msb <;> cases y.toBitVec.msb <;> simp
theorem iI_div {x y : Int} (hx : ib x) (hy : ib y) : iI x / iI y = iI (x.tdiv y) := (Int32.ofInt_tdiv (by exact hx.1) (by have := hx.2; show x ≤ 2147483647; omega) (by exact hy.1) (by have := hy.2; show y ≤ 2147483647; omega)).symm
set_option maxRecDepth 100000 in
set_option maxHeartbeats 4000000 in
theorem c_J9_floorDiv_7cf53 {l : Launch} {D : va_G} {tys : tyL} (x y : Int) (hx0 : -1000000 ≤ x ∧ x ≤ 1000000) (hy0 : 1 ≤ y ∧ y ≤ 1000000) : Di l yJ9_floorDiv_7cf53 wsJ9_floorDiv_7cf53 1 [.int (iI x), .int (iI y)] D tys [] (x / y) [] := by
  refine ct_i (by decide) rfl (Nat.le_of_ble_eq_true rfl) ?_
  intro p e s m args below meth c ls A hx hb hr hml hts hown hlocks hin hA hP hK hD hNW hS hl Q hQ
  have hl : lv_has ls 3 [(0, .int (iI x)), (1, .int (iI y))] := hl
  have bx : ib x := ib_i (by omega) (by omega)
  have bY : ib y := ib_i (by omega) (by omega)
  have t1 := Int.mul_tdiv_add_tmod x y
  have e1 := Int.mul_ediv_add_emod x y
  have e2 := Int.emod_nonneg x (b := y) (by omega)
  have e3 := Int.emod_lt_of_pos x (b := y) (by omega)
  have q0 : -1000000 ≤ x.tdiv y ∧ x.tdiv y ≤ 1000000 := by
    rcases Int.le_total 0 x with h | h
    · rw [Int.tdiv_eq_ediv_of_nonneg h]
      exact ⟨by have := Int.ediv_nonneg h (show 0 ≤ y by omega); omega, by have := Int.ediv_le_self y h; omega⟩
    · obtain ⟨z, rfl⟩ : ∃ z, x = -z := ⟨-x, by omega⟩
      rw [Int.neg_tdiv, Int.tdiv_eq_ediv_of_nonneg (by omega)]
      have k1 := Int.ediv_nonneg (show 0 ≤ z by omega) (show 0 ≤ y by omega)
      have k2 := Int.ediv_le_self y (show 0 ≤ z by omega)
      omega
  refine lv_iload_n hx hb dJ9_floorDiv_7cf53_0 rfl (lv_at hl 0 rfl) ?_
  refine lv_iload_n hx hb dJ9_floorDiv_7cf53_1 rfl (lv_at hl 1 rfl) ?_
  refine lv_idiv hx hb dJ9_floorDiv_7cf53_2 (fun h => by have := (iI_eq bY ib_0).mp h; omega) ?_
  refine li_topI (b := x.tdiv y) (iI_div bx bY) ?_
  refine lv_istore_n (lv' := [(2, .int (iI (x.tdiv y))), (0, .int (iI x)), (1, .int (iI y))]) hx hb dJ9_floorDiv_7cf53_3 rfl hl (by decide) rfl (fun ls hl => ?_)
  refine lv_iload_n hx hb dJ9_floorDiv_7cf53_4 rfl (lv_at hl 1 rfl) ?_
  refine lv_iload_n hx hb dJ9_floorDiv_7cf53_5 rfl (lv_at hl 2 rfl) ?_
  refine lv_ixor hx hb dJ9_floorDiv_7cf53_6 ?_
  have hsx : iI x < 0 ↔ x < 0 := iI_lt bx ib_0
  have hsy : ¬ iI y < 0 := fun h => by have := (iI_lt bY ib_0).mp h; omega
  have hxs := xor_sg (iI x) (iI y)
  have fin1 : ∀ ls, lv_has ls 3 [(2, .int (iI (x.tdiv y))), (0, .int (iI x)), (1, .int (iI y))] → x.tdiv y = x / y → W p l e (rK 1 0 0) s m args below meth c s.heap [] 0 0 Q (F0 m 21 ls []) := by
    intro ls hl he
    refine lv_iload_n hx hb dJ9_floorDiv_7cf53_21 rfl (lv_at hl 0 rfl) ?_
    exact li_iret () hx hb hr hlocks hK hP hD hS dJ9_floorDiv_7cf53_22 hQ rfl (congrArg iI he)
  refine lv_if_ge (tgt := 21) hx hb dJ9_floorDiv_7cf53_7 (by decide) (fun c7 => ?_) (fun c7 => ?_)
  · have hxp : 0 ≤ x := by
      rcases Int.lt_or_ge x 0 with h | h
      · exact absurd (hxs.mpr (fun q => hsy (q.mp (hsx.mpr h)))) (by rw [Int32.not_lt]; exact c7)
      · exact h
    exact fin1 ls hl (Int.tdiv_eq_ediv_of_nonneg hxp)
  · have hxn : x < 0 := by
      have h1 := hxs.mp (by rw [← Int32.not_le]; exact c7)
      rcases Int.lt_or_ge x 0 with h | h
      · exact h
      · exact absurd ⟨fun q => absurd (hsx.mp q) (by omega), fun q => absurd q hsy⟩ h1
    obtain ⟨z, rfl⟩ : ∃ z, x = -z := ⟨-x, by omega⟩
    have tz : (-z).tdiv y = -(z / y) := by rw [Int.neg_tdiv, Int.tdiv_eq_ediv_of_nonneg (by omega)]
    have z1 := Int.mul_ediv_add_emod z y
    have z2 := Int.emod_nonneg z (b := y) (by omega)
    have z3 := Int.emod_lt_of_pos z (b := y) (by omega)
    refine lv_iload_n hx hb dJ9_floorDiv_7cf53_10 rfl (lv_at hl 0 rfl) ?_
    refine lv_iload_n hx hb dJ9_floorDiv_7cf53_11 rfl (lv_at hl 2 rfl) ?_
    refine li_mul hx hb dJ9_floorDiv_7cf53_12 ?_
    refine lv_iload_n hx hb dJ9_floorDiv_7cf53_13 rfl (lv_at hl 1 rfl) ?_
    have pr : (-z).tdiv y * y = -(z - z % y) := by rw [tz, Int.neg_mul, Int.mul_comm]; omega
    refine li_top (b := -z) rfl ?_
    refine li_icmp_eq (tgt := 21) hx hb dJ9_floorDiv_7cf53_14 (by decide) (ib_i (by rw [pr]; omega) (by rw [pr]; omega)) bx (fun c14 => ?_) (fun c14 => ?_)
    · refine fin1 ls hl ?_
      have h0 : z % y = 0 := by rw [pr] at c14; omega
      rw [tz]
      exact (Int.ediv_eq_of_eq_mul_left (by omega) (by rw [Int.neg_mul, Int.mul_comm]; omega)).symm
    · refine lv_iload_n hx hb dJ9_floorDiv_7cf53_17 rfl (lv_at hl 0 rfl) ?_
      refine li_const hx hb dJ9_floorDiv_7cf53_18 ?_
      refine li_sub hx hb dJ9_floorDiv_7cf53_19 ?_
      refine li_iret () hx hb hr hlocks hK hP hD hS dJ9_floorDiv_7cf53_20 hQ rfl (congrArg iI ?_)
      have h0 : z % y ≠ 0 := by intro h; apply c14; rw [pr]; omega
      rw [tz]
      have a1 : (-(z / y) - 1) * y + (y - z % y) = -z := by rw [Int.sub_mul, Int.neg_mul, Int.one_mul, Int.mul_comm]; omega
      have a2 : (-z) / y = -(z / y) - 1 := by
        rw [← a1, Int.add_comm, Int.add_mul_ediv_right _ _ (by omega), Int.ediv_eq_zero_of_lt (by omega) (by omega)]; omega
      rw [a2]
