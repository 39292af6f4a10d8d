-- water through a gate below the highest, in one go
theorem mvW_x {n g : Int} (k : Int) (w : Wt) (hg : 0 ≤ g ∧ g < n) : mvW n g k w = (w.1, (if g = 0 then w.2.1 + k else w.2.1), w.2.2.1, fun j => if j = g then w.2.2.2 g - k else if j = g - 1 ∧ 0 < g then w.2.2.2 (g - 1) + k else w.2.2.2 j) := by
  have e1 : chW n g (-k) w = (w.1, w.2.1, w.2.2.1, upZ w.2.2.2 g (w.2.2.2 g + -k)) := by unfold chW; rw [if_neg (by omega), if_pos hg.2]
  unfold mvW
  rw [e1]
  unfold chW
  by_cases g0 : g = 0
  · rw [if_pos (by omega), if_pos g0]
    refine Prod.ext rfl (Prod.ext rfl (Prod.ext rfl (funext fun j => ?_)))
    show upZ w.2.2.2 g (w.2.2.2 g + -k) j = if j = g then w.2.2.2 g - k else if j = g - 1 ∧ 0 < g then w.2.2.2 (g - 1) + k else w.2.2.2 j
    by_cases c : j = g
    · subst c; rw [upZ_s, if_pos rfl]; omega
    · rw [upZ_n _ _ _ c, if_neg c, if_neg (by omega)]
  · rw [if_neg (by omega), if_pos (by omega), if_neg g0]
    refine Prod.ext rfl (Prod.ext rfl (Prod.ext rfl (funext fun j => ?_)))
    show upZ (upZ w.2.2.2 g (w.2.2.2 g + -k)) (g - 1) (upZ w.2.2.2 g (w.2.2.2 g + -k) (g - 1) + k) j = if j = g then w.2.2.2 g - k else if j = g - 1 ∧ 0 < g then w.2.2.2 (g - 1) + k else w.2.2.2 j
    by_cases c : j = g
    · subst c; rw [upZ_n _ _ _ (by omega), upZ_s, if_pos rfl]; omega
    · by_cases c2 : j = g - 1
      · subst c2; rw [upZ_s, upZ_n _ _ _ (by omega), if_neg c, if_pos ⟨rfl, by omega⟩]
      · rw [upZ_n _ _ _ c2, upZ_n _ _ _ c, if_neg c, if_neg (fun h => c2 h.1)]
theorem mvW_g {n g : Int} (k : Int) (w : Wt) (hg : 0 ≤ g ∧ g < n) : (mvW n g k w).2.2.2 g = w.2.2.2 g - k := by rw [mvW_x k w hg]; show (if g = g then _ else _) = _; rw [if_pos rfl]
theorem mvW_h {n g : Int} (k : Int) (w : Wt) (hg : 0 ≤ g ∧ g < n) (h0 : 0 < g) : (mvW n g k w).2.2.2 (g - 1) = w.2.2.2 (g - 1) + k := by
  rw [mvW_x k w hg]; show (if g - 1 = g then _ else if g - 1 = g - 1 ∧ 0 < g then _ else _) = _; rw [if_neg (by omega), if_pos ⟨rfl, h0⟩]
theorem mvW_0 {n g : Int} (w : Wt) (hg : 0 ≤ g ∧ g < n) : mvW n g 0 w = w := by
  rw [mvW_x 0 w hg]
  refine Prod.ext rfl (Prod.ext ?_ (Prod.ext rfl (funext fun j => ?_)))
  · show (if g = 0 then w.2.1 + 0 else w.2.1) = w.2.1; split <;> omega
  · show (if j = g then w.2.2.2 g - 0 else if j = g - 1 ∧ 0 < g then w.2.2.2 (g - 1) + 0 else w.2.2.2 j) = w.2.2.2 j
    by_cases c : j = g
    · subst c; rw [if_pos rfl]; omega
    · rw [if_neg c]
      by_cases c2 : j = g - 1 ∧ 0 < g
      · rw [if_pos c2, c2.1]; omega
      · rw [if_neg c2]
theorem mvW_add {n g : Int} (j : Int) (w : Wt) (hg : 0 ≤ g ∧ g < n) : mvW n g j (mvW n g 1 w) = mvW n g (j + 1) w := by
  rw [mvW_x j _ hg, mvW_x (j + 1) w hg]
  refine Prod.ext ?_ (Prod.ext ?_ (Prod.ext ?_ (funext fun z => ?_)))
  · show (mvW n g 1 w).1 = w.1; rw [mvW_x 1 w hg]
  · show (if g = 0 then (mvW n g 1 w).2.1 + j else (mvW n g 1 w).2.1) = (if g = 0 then w.2.1 + (j + 1) else w.2.1)
    rw [mvW_x 1 w hg]
    show (if g = 0 then (if g = 0 then w.2.1 + 1 else w.2.1) + j else (if g = 0 then w.2.1 + 1 else w.2.1)) = _
    by_cases c : g = 0
    · rw [if_pos c, if_pos c, if_pos c]; omega
    · rw [if_neg c, if_neg c, if_neg c]
  · show (mvW n g 1 w).2.2.1 = w.2.2.1; rw [mvW_x 1 w hg]
  · show (if z = g then (mvW n g 1 w).2.2.2 g - j else if z = g - 1 ∧ 0 < g then (mvW n g 1 w).2.2.2 (g - 1) + j else (mvW n g 1 w).2.2.2 z) = (if z = g then w.2.2.2 g - (j + 1) else if z = g - 1 ∧ 0 < g then w.2.2.2 (g - 1) + (j + 1) else w.2.2.2 z)
    by_cases c : z = g
    · rw [if_pos c, if_pos c, mvW_g 1 w hg]; omega
    · rw [if_neg c, if_neg c]
      by_cases c2 : z = g - 1 ∧ 0 < g
      · rw [if_pos c2, if_pos c2, mvW_h 1 w hg c2.2]; omega
      · rw [if_neg c2, if_neg c2, mvW_x 1 w hg]
        show (if z = g then _ else if z = g - 1 ∧ 0 < g then _ else _) = _
        rw [if_neg c, if_neg c2]
theorem canW_iff {n L a g : Int} {w : Wt} (hg : 0 ≤ g ∧ g < n) : canW n L a g w = true ↔ 0 < w.2.2.2 g ∧ (g = 0 ∨ w.2.2.2 (g - 1) < L) := by
  have m2 := mu_m g L
  unfold canW
  rw [if_pos hg.2, lvA_c hg.1 hg.2]
  simp only [Bool.and_eq_true, Bool.or_eq_true, decide_eq_true_eq]
  by_cases g0 : g = 0
  · constructor
    · intro h; exact ⟨by omega, Or.inl g0⟩
    · intro h; exact ⟨by omega, Or.inl g0⟩
  · rw [lvA_c (by omega) (by omega)]
    omega
/-- how many of m units flow through the gate g below the highest -/
def kF (L g : Int) (m : Int) (w : Wt) : Int := if 0 < g then (if L - w.2.2.2 (g - 1) < (if w.2.2.2 g < m then w.2.2.2 g else m) then L - w.2.2.2 (g - 1) else (if w.2.2.2 g < m then w.2.2.2 g else m)) else (if w.2.2.2 g < m then w.2.2.2 g else m)
theorem flW_cl {n L a g : Int} (hg : 0 ≤ g ∧ g < n) : ∀ (m : Nat) (w : Wt), WI n L a w → flW n L a g m w = (kF L g (m : Int) w, mvW n g (kF L g (m : Int) w) w)
  | 0, w, hw => by
    have u1 := hw.2 g hg.1 hg.2
    have e : kF L g ((0 : Nat) : Int) w = 0 := by
      unfold kF
      by_cases g0 : 0 < g
      · have u2 := hw.2 (g - 1) (by omega) (by omega)
        rw [if_pos g0]; (repeat' split) <;> omega
      · rw [if_neg g0]; split <;> omega
    rw [e, mvW_0 w hg]; rfl
  | m + 1, w, hw => by
    have u1 := hw.2 g hg.1 hg.2
    by_cases hc : canW n L a g w = true
    · have h1 := (canW_iff hg).mp hc
      have hw' : WI n L a (mvW n g 1 w) := by
        refine ⟨by rw [mvW_x 1 w hg]; exact hw.1, fun c h0 h3 => ?_⟩
        rw [mvW_x 1 w hg]
        show 0 ≤ (if c = g then w.2.2.2 g - 1 else if c = g - 1 ∧ 0 < g then w.2.2.2 (g - 1) + 1 else w.2.2.2 c) ∧ (if c = g then w.2.2.2 g - 1 else if c = g - 1 ∧ 0 < g then w.2.2.2 (g - 1) + 1 else w.2.2.2 c) ≤ L
        by_cases c1 : c = g
        · rw [if_pos c1]; omega
        · rw [if_neg c1]
          by_cases c2 : c = g - 1 ∧ 0 < g
          · rw [if_pos c2]
            have u2 := hw.2 (g - 1) (by omega) (by omega)
            omega
          · rw [if_neg c2]; exact hw.2 c h0 h3
      have e : kF L g (m : Int) (mvW n g 1 w) + 1 = kF L g ((m + 1 : Nat) : Int) w := by
        unfold kF
        rw [mvW_g 1 w hg]
        by_cases g0 : 0 < g
        · rw [if_pos g0, if_pos g0, mvW_h 1 w hg g0]
          have u2 := hw.2 (g - 1) (by omega) (by omega)
          (repeat' split) <;> omega
        · rw [if_neg g0, if_neg g0]; (repeat' split) <;> omega
      rw [flW_t m hc, flW_cl hg m _ hw', ← e, mvW_add _ w hg]
    · have h2 : canW n L a g w = false := by cases q : canW n L a g w; rfl; exact absurd q hc
      have h1 : ¬ (0 < w.2.2.2 g ∧ (g = 0 ∨ w.2.2.2 (g - 1) < L)) := fun q => hc ((canW_iff hg).mpr q)
      have e : kF L g ((m + 1 : Nat) : Int) w = 0 := by
        unfold kF
        by_cases g0 : 0 < g
        · have u2 := hw.2 (g - 1) (by omega) (by omega)
          rw [if_pos g0]; (repeat' split) <;> omega
        · rw [if_neg g0]; split <;> omega
      rw [flW_f _ h2, e, mvW_0 w hg]
theorem flW_r1 {n L a g m : Int} {w : Wt} (hg : 0 < g ∧ g < n) (hm : 0 ≤ m) (hw : WI n L a w) {k : Int} (hk : k = (if L - w.2.2.2 (g - 1) < (if w.2.2.2 g < m then w.2.2.2 g else m) then L - w.2.2.2 (g - 1) else (if w.2.2.2 g < m then w.2.2.2 g else m))) :
    flW n L a g m.toNat w = (k, (w.1, w.2.1, w.2.2.1, upZ (upZ w.2.2.2 (g - 1) (w.2.2.2 (g - 1) + k)) g (upZ w.2.2.2 (g - 1) (w.2.2.2 (g - 1) + k) g - k))) := by
  have e : kF L g ((m.toNat : Nat) : Int) w = k := by rw [hk, Int.toNat_of_nonneg hm]; unfold kF; rw [if_pos hg.1]
  rw [flW_cl ⟨by omega, hg.2⟩ m.toNat w hw, e, mvW_x k w ⟨by omega, hg.2⟩, if_neg (by omega)]
  refine Prod.ext rfl (Prod.ext rfl (Prod.ext rfl (Prod.ext rfl (funext fun j => ?_))))
  show (if j = g then w.2.2.2 g - k else if j = g - 1 ∧ 0 < g then w.2.2.2 (g - 1) + k else w.2.2.2 j) = upZ (upZ w.2.2.2 (g - 1) (w.2.2.2 (g - 1) + k)) g (upZ w.2.2.2 (g - 1) (w.2.2.2 (g - 1) + k) g - k) j
  by_cases c : j = g
  · subst c; rw [upZ_s, if_pos rfl, upZ_n _ _ _ (by omega)]
  · rw [upZ_n _ _ _ c, if_neg c]
    by_cases c2 : j = g - 1
    · rw [if_pos ⟨c2, hg.1⟩, c2, upZ_s]
    · rw [if_neg (fun h => c2 h.1), upZ_n _ _ _ c2]
theorem flW_r0 {n L a g m : Int} {w : Wt} (hg : g = 0 ∧ g < n) (hm : 0 ≤ m) (hw : WI n L a w) {k : Int} (hk : k = (if w.2.2.2 g < m then w.2.2.2 g else m)) :
    flW n L a g m.toNat w = (k, (w.1, w.2.1 + k, w.2.2.1, upZ w.2.2.2 g (w.2.2.2 g - k))) := by
  have e : kF L g ((m.toNat : Nat) : Int) w = k := by rw [hk, Int.toNat_of_nonneg hm]; unfold kF; rw [if_neg (by omega)]
  rw [flW_cl ⟨by omega, hg.2⟩ m.toNat w hw, e, mvW_x k w ⟨by omega, hg.2⟩, if_pos hg.1]
  refine Prod.ext rfl (Prod.ext rfl (Prod.ext rfl (Prod.ext rfl (funext fun j => ?_))))
  show (if j = g then w.2.2.2 g - k else if j = g - 1 ∧ 0 < g then w.2.2.2 (g - 1) + k else w.2.2.2 j) = upZ w.2.2.2 g (w.2.2.2 g - k) j
  by_cases c : j = g
  · subst c; rw [upZ_s, if_pos rfl]
  · rw [upZ_n _ _ _ c, if_neg c, if_neg (by omega)]
theorem paW_tk (n L a : Int) (tn : Int → Int) (j : Int) (w : Wt) : ∀ k : Nat, paW n L a tn k (tickW j w) = ((paW n L a tn k w).1, tickW j (paW n L a tn k w).2)
  | 0 => rfl
  | k + 1 => by
    show ((paW n L a tn k (tickW j w)).1 + _, _) = ((paW n L a tn k w).1 + _, tickW j _)
    rw [paW_tk n L a tn j w k]
    show ((paW n L a tn k w).1 + (flW n L a (k : Int) (4 * tnA tn (k : Int)).toNat (tickW j (paW n L a tn k w).2)).1, (flW n L a (k : Int) (4 * tnA tn (k : Int)).toNat (tickW j (paW n L a tn k w).2)).2) = _
    rw [flW_tk]
    rfl
-- lowering ends
theorem kF_b {n L a g m : Int} {w : Wt} (hg : 0 ≤ g ∧ g < n) (hw : WI n L a w) (hm : 0 ≤ m) : 0 ≤ kF L g m w ∧ kF L g m w ≤ m ∧ kF L g m w ≤ w.2.2.2 g ∧ (0 < m → 0 < w.2.2.2 g → (g = 0 ∨ w.2.2.2 (g - 1) < L) → 0 < kF L g m w) := by
  have u1 := hw.2 g hg.1 hg.2
  unfold kF
  by_cases g0 : 0 < g
  · have u2 := hw.2 (g - 1) (by omega) (by omega)
    rw [if_pos g0]; (repeat' split) <;> omega
  · rw [if_neg g0]; split <;> omega
theorem rnW_g {n L a g : Int} {w : Wt} (hg : 0 ≤ g ∧ g < n) (m : Nat) (hw : WI n L a w) : (rnW n L a g m w).2.2.2 g = w.2.2.2 g - kF L g (m : Int) w := by
  show (flW n L a g m w).2.2.2.2 g = _
  rw [flW_cl hg m w hw]; exact mvW_g _ w hg
theorem rnW_h {n L a g : Int} {w : Wt} (hg : 0 < g ∧ g < n) (m : Nat) (hw : WI n L a w) : (rnW n L a g m w).2.2.2 (g - 1) = w.2.2.2 (g - 1) + kF L g (m : Int) w := by
  show (flW n L a g m w).2.2.2.2 (g - 1) = _
  rw [flW_cl ⟨by omega, hg.2⟩ m w hw]; exact mvW_h _ w ⟨by omega, hg.2⟩ hg.1
theorem lo_step {n L a c t : Int} {lo : Wt → Wt} {w : Wt} (hL : 5 ≤ L ∧ L ≤ 40) (hc : 0 ≤ c ∧ c < n) (ht : 0 ≤ t) (hw : WI n L a w) (hlt : t < w.2.2.2 c)
    (hlo : 0 < c → WI n L a (lo w) ∧ (lo w).2.2.2 c = w.2.2.2 c ∧ (lo w).2.2.2 (c - 1) ≤ 0) : t ≤ (loS n L a lo c t w).2.2.2 c ∧ (loS n L a lo c t w).2.2.2 c < w.2.2.2 c := by
  by_cases q : 0 < c ∧ L ≤ w.2.2.2 (c - 1)
  · obtain ⟨h1, h2, h3⟩ := hlo q.1
    rw [loS_b q, rnW_g hc _ h1, Int.toNat_of_nonneg (by omega)]
    have k1 := kF_b (m := (lo w).2.2.2 c - t) hc h1 (by omega)
    have k2 := k1.2.2.2 (by omega) (by omega) (Or.inr (by omega))
    omega
  · rw [loS_a q, rnW_g hc _ hw, Int.toNat_of_nonneg (by omega)]
    have k1 := kF_b (m := w.2.2.2 c - t) hc hw (by omega)
    have k2 := k1.2.2.2 (by omega) (by omega) (by omega)
    omega
theorem itW_le {n L a c t : Int} {f : Wt → Wt} (hf : ∀ w, WI n L a w → t < w.2.2.2 c → WI n L a (f w) ∧ t ≤ (f w).2.2.2 c ∧ (f w).2.2.2 c < w.2.2.2 c) : ∀ (m : Nat) (w : Wt), WI n L a w → w.2.2.2 c - t ≤ (m : Int) → (itW f c t m w).2.2.2 c ≤ t ∧ (t ≤ w.2.2.2 c → t ≤ (itW f c t m w).2.2.2 c)
  | 0, w, hw, hm => ⟨by show w.2.2.2 c ≤ t; omega, fun q => q⟩
  | m + 1, w, hw, hm => by
    by_cases h : t < w.2.2.2 c
    · obtain ⟨h1, h2, h3⟩ := hf w hw h
      rw [itW_t m h]
      have ih := itW_le hf m (f w) h1 (by omega)
      exact ⟨ih.1, fun _ => ih.2 h2⟩
    · rw [itW_f _ h]; exact ⟨by omega, fun q => q⟩
theorem lo_le {n L a : Int} (hn : 1 ≤ n ∧ n ≤ 6) (hL : 5 ≤ L ∧ L ≤ 40) (ha : 1 ≤ a ∧ a ≤ 50) : ∀ (c : Nat) (t : Int) (w : Wt), (c : Int) < n → 0 ≤ t → WI n L a w → (loM n L a c t w).2.2.2 (c : Int) ≤ t ∧ (t ≤ w.2.2.2 (c : Int) → t ≤ (loM n L a c t w).2.2.2 (c : Int))
  | 0, t, w, hc, ht, hw => by
    have u1 := hw.2 0 (by omega) (by omega)
    unfold loM
    refine itW_le (fun v hv hlt => ?_) FU w hw (by show w.2.2.2 0 - t ≤ ((100000 : Nat) : Int); omega)
    have h := lo_step (lo := id) hL ⟨Int.le_refl 0, by omega⟩ ht hv hlt (fun q => absurd q (by omega))
    exact ⟨by rw [loS_a (fun q => by omega)]; exact rnW_WI hn hL ha (by omega) _ hv, h.1, h.2⟩
  | c + 1, t, w, hc, ht, hw => by
    have u1 := hw.2 ((c + 1 : Nat) : Int) (by omega) (by omega)
    unfold loM
    refine itW_le (fun v hv hlt => ?_) FU w hw (by show w.2.2.2 ((c + 1 : Nat) : Int) - t ≤ ((100000 : Nat) : Int); omega)
    have hl : 0 < ((c + 1 : Nat) : Int) → WI n L a (loM n L a c 0 v) ∧ (loM n L a c 0 v).2.2.2 ((c + 1 : Nat) : Int) = v.2.2.2 ((c + 1 : Nat) : Int) ∧ (loM n L a c 0 v).2.2.2 (((c + 1 : Nat) : Int) - 1) ≤ 0 := fun _ => by
      have ih := lo_le hn hL ha c 0 v (by omega) (Int.le_refl 0) hv
      refine ⟨loM_WI hn hL ha c 0 v (by omega) hv, loM_keepN n L a _ c 0 v (by omega), ?_⟩
      rw [show ((c + 1 : Nat) : Int) - 1 = (c : Int) by omega]; exact ih.1
    have h := lo_step hL ⟨by omega, hc⟩ ht hv hlt hl
    refine ⟨?_, h.1, h.2⟩
    by_cases q : 0 < ((c + 1 : Nat) : Int) ∧ L ≤ v.2.2.2 (((c + 1 : Nat) : Int) - 1)
    · rw [loS_b q]; exact rnW_WI hn hL ha (by omega) _ (hl q.1).1
    · rw [loS_a q]; exact rnW_WI hn hL ha (by omega) _ hv
