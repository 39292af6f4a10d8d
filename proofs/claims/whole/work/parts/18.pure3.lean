-- raising, and the highest gate
theorem flW_P {n L a g : Int} (hg : 0 ≤ g ∧ g < n) : ∀ (m : Nat) (w : Wt), (flW n L a g m w).2.1 = w.1
  | 0, _ => rfl
  | m + 1, w => by
    by_cases h : canW n L a g w = true
    · rw [flW_t m h]
      show (flW n L a g m (mvW n g 1 w)).2.1 = _
      rw [flW_P hg m, mvW_x 1 w hg]
    · have h2 : canW n L a g w = false := by cases q : canW n L a g w; rfl; exact absurd q h
      rw [flW_f _ h2]
theorem itW_P {f : Wt → Wt} (hf : ∀ w, (f w).1 = w.1) (c t : Int) : ∀ (m : Nat) (w : Wt), (itW f c t m w).1 = w.1
  | 0, _ => rfl
  | m + 1, w => by
    by_cases h : t < w.2.2.2 c
    · rw [itW_t m h, itW_P hf c t m, hf]
    · rw [itW_f _ h]
theorem loM_P (n L a : Int) : ∀ (b : Nat) (t : Int) (w : Wt), (b : Int) < n → (loM n L a b t w).1 = w.1
  | 0, t, w, h => by
    unfold loM
    refine itW_P (fun v => ?_) _ _ _ _
    rw [loS_a (fun q => by omega)]
    exact flW_P (by omega) _ v
  | b + 1, t, w, h => by
    unfold loM
    refine itW_P (fun v => ?_) _ _ _ _
    by_cases q : 0 < ((b + 1 : Nat) : Int) ∧ L ≤ v.2.2.2 (((b + 1 : Nat) : Int) - 1)
    · rw [loS_b q]
      show (flW n L a ((b + 1 : Nat) : Int) _ (loM n L a b 0 v)).2.1 = _
      rw [flW_P (by omega), loM_P n L a b 0 v (by omega)]
    · rw [loS_a q]
      exact flW_P (by omega) _ v
theorem raM_keep (n L a j : Int) : ∀ (d : Nat) (c t : Int) (w : Wt), j < c → (raM n L a d c t w).2.2.2.2 j = w.2.2.2 j
  | 0, c, t, w, h => by
    by_cases q : t ≤ w.2.2.2 c
    · rw [raM_t 0 q]
    · rw [raM_z rfl q]; exact rnW_keep _ _ _ _ _ (by omega) (by omega) _ _
  | d + 1, c, t, w, h => by
    by_cases q : t ≤ w.2.2.2 c
    · rw [raM_t _ q]
    · by_cases q2 : (raM n L a (d + 1 - 1) (c + 1) (t - w.2.2.2 c) w).1 = true
      · rw [raM_k (by omega) q q2]
        show (rnW n L a (c + 1) _ _).2.2.2 j = _
        rw [rnW_keep _ _ _ _ _ (by omega) (by omega)]
        exact raM_keep n L a j d (c + 1) _ w (by omega)
      · rw [raM_r (by omega) q q2]
        exact raM_keep n L a j d (c + 1) _ w (by omega)
theorem raM_ok {n L a : Int} {d : Nat} {c t : Int} {w : Wt} (h : (raM n L a d c t w).1 = true) : t ≤ (raM n L a d c t w).2.2.2.2 c := by
  by_cases q : t ≤ w.2.2.2 c
  · rw [raM_t d q]; exact q
  · cases d with
    | zero => rw [raM_z rfl q] at h ⊢; exact of_decide_eq_true h
    | succ d =>
      by_cases q2 : (raM n L a (d + 1 - 1) (c + 1) (t - w.2.2.2 c) w).1 = true
      · rw [raM_k (by omega) q q2] at h ⊢; exact of_decide_eq_true h
      · rw [raM_r (by omega) q q2] at h; exact absurd h Bool.false_ne_true
theorem ra_fill {n L a c t : Int} {w : Wt} (hc : 0 ≤ c ∧ c + 1 < n) (ht : t ≤ L) (hw : WI n L a w) (h1 : w.2.2.2 c < t) (h2 : t - w.2.2.2 c ≤ w.2.2.2 (c + 1)) : (rnW n L a (c + 1) (t - w.2.2.2 c).toNat w).2.2.2 c = t := by
  have h := rnW_h (g := c + 1) ⟨by omega, hc.2⟩ (t - w.2.2.2 c).toNat hw
  rw [show c + 1 - 1 = c by omega, Int.toNat_of_nonneg (by omega)] at h
  rw [h]
  unfold kF
  rw [if_pos (by omega), show c + 1 - 1 = c by omega]
  (repeat' split) <;> omega
theorem mvW_n {n : Int} (hn : 1 ≤ n ∧ n ≤ 6) (w : Wt) : mvW n n 1 w = (w.1 - 1, w.2.1, w.2.2.1, upZ w.2.2.2 (n - 1) (w.2.2.2 (n - 1) + 1)) := by
  have e1 : chW n n (-1) w = (w.1 + -1, w.2.1, w.2.2.1, w.2.2.2) := by unfold chW; rw [if_neg (by omega), if_neg (by omega)]
  unfold mvW
  rw [e1]
  unfold chW
  rw [if_neg (by omega), if_pos (by omega)]
  rfl
theorem flW_nu {n L a : Int} (hn : 1 ≤ n ∧ n ≤ 6) : ∀ (m : Nat) (w : Wt), (flW n L a n m w).2.2.2.2 (n - 1) = w.2.2.2 (n - 1) + (flW n L a n m w).1
  | 0, w => by show w.2.2.2 (n - 1) = w.2.2.2 (n - 1) + 0; omega
  | m + 1, w => by
    by_cases h : canW n L a n w = true
    · rw [flW_t m h]
      show (flW n L a n m (mvW n n 1 w)).2.2.2.2 (n - 1) = w.2.2.2 (n - 1) + ((flW n L a n m (mvW n n 1 w)).1 + 1)
      have e : (mvW n n 1 w).2.2.2 (n - 1) = w.2.2.2 (n - 1) + 1 := by rw [mvW_n hn]; exact upZ_s _ _ _
      have ih := flW_nu (L := L) (a := a) hn m (mvW n n 1 w)
      omega
    · have h2 : canW n L a n w = false := by cases q : canW n L a n w; rfl; exact absurd q h
      rw [flW_f _ h2]; show w.2.2.2 (n - 1) = w.2.2.2 (n - 1) + 0; omega
theorem canW_n (n L a : Int) (w : Wt) : canW n L a n w = decide (lvA n L a w (n - 1) < lvA n L a w n) := by unfold canW; rw [if_neg (by omega)]
def rtW (n L a : Int) : Nat → Wt → Wt
  | 0, w => w
  | m + 1, w => if 0 < hdA n L a w n then rtW n L a m (tickW 1 (flW n L a n 20 w).2) else w
theorem rtW_t {n L a : Int} {w : Wt} (m : Nat) (h : 0 < hdA n L a w n) : rtW n L a (m + 1) w = rtW n L a m (tickW 1 (flW n L a n 20 w).2) := by
  show (if 0 < hdA n L a w n then rtW n L a m (tickW 1 (flW n L a n 20 w).2) else w) = _
  rw [if_pos h]
theorem rtW_f {n L a : Int} {w : Wt} (m : Nat) (h : ¬ 0 < hdA n L a w n) : rtW n L a m w = w := by
  cases m with
  | zero => rfl
  | succ m => show (if 0 < hdA n L a w n then _ else w) = _; rw [if_neg h]
theorem up_dec {n L a : Int} {w : Wt} (hn : 1 ≤ n ∧ n ≤ 6) (hL : 5 ≤ L ∧ L ≤ 40) (ha : 1 ≤ a ∧ a ≤ 50) (hw : WI n L a w) (h : 0 < hdA n L a w n) : WI n L a (tickW 1 (flW n L a n 20 w).2) ∧ w.2.2.2 (n - 1) < (tickW 1 (flW n L a n 20 w).2).2.2.2 (n - 1) ∧ (tickW 1 (flW n L a n 20 w).2).2.2.2 (n - 1) ≤ L := by
  have h1 : WI n L a (tickW 1 (flW n L a n 20 w).2) := (flW_WI hn hL ha (by omega) 20 w hw).1
  have hc : canW n L a n w = true := by rw [canW_n]; unfold hdA at h; exact decide_eq_true (by omega)
  have e : (tickW 1 (flW n L a n 20 w).2).2.2.2 (n - 1) = w.2.2.2 (n - 1) + (flW n L a n 20 w).1 := flW_nu hn 20 w
  have k : 0 < (flW n L a n 20 w).1 := by
    rw [flW_t 19 hc]
    have g := flW_ge n L a n 19 (mvW n n 1 w)
    show 0 < (flW n L a n 19 (mvW n n 1 w)).1 + 1
    omega
  have u := h1.2 (n - 1) (by omega) (by omega)
  exact ⟨h1, by omega, u.2⟩
theorem rtW_fuel {n L a : Int} (hn : 1 ≤ n ∧ n ≤ 6) (hL : 5 ≤ L ∧ L ≤ 40) (ha : 1 ≤ a ∧ a ≤ 50) : ∀ (m k : Nat) (w : Wt), WI n L a w → L - w.2.2.2 (n - 1) ≤ (m : Int) → L - w.2.2.2 (n - 1) ≤ (k : Int) → rtW n L a m w = rtW n L a k w
  | m, k, w, hw, h1, h2 => by
    by_cases h : 0 < hdA n L a w n
    · have d := up_dec hn hL ha hw h
      obtain ⟨m', rfl⟩ : ∃ m', m = m' + 1 := ⟨m - 1, by omega⟩
      obtain ⟨k', rfl⟩ : ∃ k', k = k' + 1 := ⟨k - 1, by omega⟩
      rw [rtW_t m' h, rtW_t k' h]
      exact rtW_fuel hn hL ha m' k' _ d.1 (by omega) (by omega)
    · rw [rtW_f m h, rtW_f k h]
theorem rtW_end {n L a : Int} (hn : 1 ≤ n ∧ n ≤ 6) (hL : 5 ≤ L ∧ L ≤ 40) (ha : 1 ≤ a ∧ a ≤ 50) : ∀ (m : Nat) (w : Wt), WI n L a w → L - w.2.2.2 (n - 1) ≤ (m : Int) → WI n L a (rtW n L a m w) ∧ ¬ 0 < hdA n L a (rtW n L a m w) n
  | 0, w, hw, h1 => by
    refine ⟨hw, fun h => ?_⟩
    have d := up_dec hn hL ha hw h
    omega
  | m + 1, w, hw, h1 => by
    by_cases h : 0 < hdA n L a w n
    · have d := up_dec hn hL ha hw h
      rw [rtW_t m h]
      exact rtW_end hn hL ha m _ d.1 (by omega)
    · rw [rtW_f _ h]; exact ⟨hw, h⟩
theorem FU_ge {n L a : Int} {w : Wt} (hn : 1 ≤ n ∧ n ≤ 6) (hL : 5 ≤ L ∧ L ≤ 40) (hw : WI n L a w) : L - w.2.2.2 (n - 1) ≤ (FU : Int) := by
  have u := hw.2 (n - 1) (by omega) (by omega)
  show L - w.2.2.2 (n - 1) ≤ ((100000 : Nat) : Int)
  omega
/-- the highest gate, told without a bound -/
def lhC (n L a : Int) (w : Wt) : Bool × Wt := if hdA n L a (rtW n L a FU w) n = 0 then (true, rtW n L a FU w) else if lvA n L a (rtW n L a FU w) n < (n - 1) * L then (false, rtW n L a FU w) else (true, loM n L a (n - 1).toNat (lvA n L a (rtW n L a FU w) n - (n - 1) * L) (rtW n L a FU w))
theorem lo_hd {n L a : Int} {w : Wt} (hn : 1 ≤ n ∧ n ≤ 6) (hL : 5 ≤ L ∧ L ≤ 40) (ha : 1 ≤ a ∧ a ≤ 50) (hw : WI n L a w) (h : hdA n L a w n ≤ 0) (h2 : ¬ lvA n L a w n < (n - 1) * L) : hdA n L a (loM n L a (n - 1).toNat (lvA n L a w n - (n - 1) * L) w) n = 0 := by
  have e1 := lvA_c (L := L) (a := a) (w := w) (show 0 ≤ n - 1 by omega) (show n - 1 < n by omega)
  have l := lo_le hn hL ha (n - 1).toNat (lvA n L a w n - (n - 1) * L) w (by omega) (by omega) hw
  rw [Int.toNat_of_nonneg (by omega)] at l
  have p := loM_P n L a (n - 1).toNat (lvA n L a w n - (n - 1) * L) w (by omega)
  unfold hdA at h ⊢
  rw [lvA_c (L := L) (a := a) (w := loM n L a (n - 1).toNat (lvA n L a w n - (n - 1) * L) w) (show 0 ≤ n - 1 by omega) (show n - 1 < n by omega), lvA_n hn, p]
  have e2 := lvA_n (L := L) (a := a) (w := w) hn
  have l2 := l.2 (by omega)
  omega
theorem lhM_C {n L a : Int} (hn : 1 ≤ n ∧ n ≤ 6) (hL : 5 ≤ L ∧ L ≤ 40) (ha : 1 ≤ a ∧ a ≤ 50) : ∀ (m : Nat) (w : Wt), WI n L a w → L - w.2.2.2 (n - 1) + 2 ≤ (m : Int) → lhM n L a m w = lhC n L a w
  | 0, w, hw, h => by
    have u := hw.2 (n - 1) (by omega) (by omega)
    omega
  | m + 1, w, hw, h => by
    have u := hw.2 (n - 1) (by omega) (by omega)
    have e1 := lvA_c (L := L) (a := a) (w := w) (show 0 ≤ n - 1 by omega) (show n - 1 < n by omega)
    have eh : hdA n L a w n = lvA n L a w n - lvA n L a w (n - 1) := rfl
    by_cases h1 : hdA n L a w n = 0
    · rw [lhM_z _ h1]
      unfold lhC
      rw [rtW_f FU (by omega), if_pos h1]
    · by_cases h2 : lvA n L a w n < (n - 1) * L
      · rw [lhM_b _ h1 h2]
        unfold lhC
        rw [rtW_f FU (by omega), if_neg h1, if_pos h2]
      · by_cases h3 : 0 < hdA n L a w n
        · have d := up_dec hn hL ha hw h3
          rw [lhM_u _ h1 h2 h3, lhM_C hn hL ha m _ d.1 (by omega)]
          have e : rtW n L a FU w = rtW n L a FU (tickW 1 (flW n L a n 20 w).2) := by
            show rtW n L a (99999 + 1) w = _
            rw [rtW_t 99999 h3]
            refine rtW_fuel hn hL ha 99999 FU _ d.1 ?_ (FU_ge hn hL d.1)
            have u2 := d.1.2 (n - 1) (by omega) (by omega)
            show _ ≤ ((99999 : Nat) : Int)
            omega
          unfold lhC
          rw [e]
        · rw [lhM_d _ h1 h2 h3, lhM_z _ (lo_hd hn hL ha hw (by omega) h2)]
          unfold lhC
          rw [rtW_f FU h3, if_neg h1, if_neg h2]
theorem lhM_FU {n L a : Int} {w : Wt} (hn : 1 ≤ n ∧ n ≤ 6) (hL : 5 ≤ L ∧ L ≤ 40) (ha : 1 ≤ a ∧ a ≤ 50) (hw : WI n L a w) : lhM n L a FU w = lhC n L a w := lhM_C hn hL ha FU w hw (by
  have u := hw.2 (n - 1) (by omega) (by omega)
  show L - w.2.2.2 (n - 1) + 2 ≤ ((100000 : Nat) : Int)
  omega)
theorem lhC_z {n L a : Int} {w : Wt} (h : hdA n L a w n = 0) : lhC n L a w = (true, w) := by unfold lhC; rw [rtW_f FU (by omega), if_pos h]
theorem lhC_b {n L a : Int} {w : Wt} (h : ¬ hdA n L a w n = 0) (h3 : ¬ 0 < hdA n L a w n) (h2 : lvA n L a w n < (n - 1) * L) : lhC n L a w = (false, w) := by unfold lhC; rw [rtW_f FU h3, if_neg h, if_pos h2]
theorem lhC_rt {n L a : Int} {w : Wt} (hn : 1 ≤ n ∧ n ≤ 6) (hL : 5 ≤ L ∧ L ≤ 40) (ha : 1 ≤ a ∧ a ≤ 50) (hw : WI n L a w) : lhC n L a (rtW n L a FU w) = lhC n L a w := by
  have h := rtW_end hn hL ha FU w hw (FU_ge hn hL hw)
  unfold lhC
  rw [rtW_f FU h.2]
theorem lhC_lo {n L a : Int} {w : Wt} (hn : 1 ≤ n ∧ n ≤ 6) (hL : 5 ≤ L ∧ L ≤ 40) (ha : 1 ≤ a ∧ a ≤ 50) (hw : WI n L a w) (h : ¬ hdA n L a w n = 0) (h3 : ¬ 0 < hdA n L a w n) (h2 : ¬ lvA n L a w n < (n - 1) * L) : lhC n L a (loM n L a (n - 1).toNat (lvA n L a w n - (n - 1) * L) w) = lhC n L a w := by
  rw [lhC_z (lo_hd hn hL ha hw (by omega) h2)]
  unfold lhC
  rw [rtW_f FU h3, if_neg h, if_neg h2]
def muH (n L a : Int) (w : Wt) : Int := if 0 < hdA n L a w n then 2 else if hdA n L a w n = 0 then 0 else 1
-- the report in the row
def shZ (f : Int → Int) (e v : Int) : Int → Int := fun j => if j = 0 then v else if 1 ≤ j ∧ j ≤ e then f (j - 1) else f j
def shX (f : Int → Int) (i e : Int) : Int → Int := fun j => if i < j ∧ j ≤ e then f (j - 1) else f j
theorem shX_e (f : Int → Int) (e : Int) : shX f e e = f := by funext j; unfold shX; rw [if_neg (by omega)]
theorem shX_s (f : Int → Int) {i e : Int} (h : 0 < i ∧ i ≤ e) : upZ (shX f i e) i (shX f i e (i - 1)) = shX f (i + (-1)) e := by
  funext j
  by_cases c : j = i
  · subst c; rw [upZ_s]; unfold shX; rw [if_neg (by omega), if_pos (by omega)]
  · rw [upZ_n _ _ _ c]; unfold shX
    by_cases c2 : i < j ∧ j ≤ e
    · rw [if_pos c2, if_pos (by omega)]
    · rw [if_neg c2, if_neg (by omega)]
theorem shX_0 (f : Int → Int) {i : Int} (e v : Int) (h : i = 0) : upZ (shX f i e) 0 v = shZ f e v := by
  subst h
  funext j
  unfold shZ
  by_cases c : j = 0
  · subst c; rw [upZ_s, if_pos rfl]
  · rw [upZ_n _ _ _ c, if_neg c]; unfold shX
    by_cases c2 : 0 < j ∧ j ≤ e
    · rw [if_pos c2, if_pos (by omega)]
    · rw [if_neg c2, if_neg (by omega)]
def fkd : Nat → Int → (Int → Int) → (Int → Int)
  | 0, e, f => shZ (shZ f e 5) (e + 1) 7
  | d + 1, e, f => shZ (fkd d e f) (e + (d : Int) + 2) 7
def fnb : Nat → Int → Int → (Int → Int) → (Int → Int)
  | 0, e, c, f => shZ (shZ f e (-1)) (e + 1) c
  | d + 1, e, c, f => shZ (fnb d e (c + 1) f) (e + (d : Int) + 2) c
theorem fkd_z {d : Nat} (h : d = 0) (e : Int) (f : Int → Int) : fkd d e f = shZ (shZ f e 5) (e + 1) 7 := by subst h; rfl
theorem fnb_z {d : Nat} (h : d = 0) (e c : Int) (f : Int → Int) : fnb d e c f = shZ (shZ f e (-1)) (e + 1) c := by subst h; rfl
theorem fkd_s {d : Nat} (h : 0 < d) (e : Int) (f : Int → Int) : fkd d e f = shZ (fkd (d - 1) e f) (e + ((d - 1 : Nat) : Int) + 2) 7 := by
  obtain ⟨k, rfl⟩ : ∃ k, d = k + 1 := ⟨d - 1, by omega⟩
  rfl
theorem fnb_s {d : Nat} (h : 0 < d) (e c : Int) (f : Int → Int) : fnb d e c f = shZ (fnb (d - 1) e (c + 1) f) (e + ((d - 1 : Nat) : Int) + 2) c := by
  obtain ⟨k, rfl⟩ : ∃ k, d = k + 1 := ⟨d - 1, by omega⟩
  rfl
