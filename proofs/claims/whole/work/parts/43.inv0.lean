/-- all the water that there is -/
def tot (n : Int) (w : Wt) : Int := w.1 + w.2.1 + sumZ w.2.2.2 n.toNat
theorem sumZ_up (f : Int → Int) (j v : Int) : ∀ k : Nat, sumZ (upZ f j v) k = if 0 ≤ j ∧ j < (k : Int) then sumZ f k - f j + v else sumZ f k
  | 0 => by rw [if_neg (by omega)]; rfl
  | k + 1 => by
    show sumZ (upZ f j v) k + upZ f j v (k : Int) = if 0 ≤ j ∧ j < ((k + 1 : Nat) : Int) then sumZ f k + f (k : Int) - f j + v else sumZ f k + f (k : Int)
    rw [sumZ_up f j v k]
    by_cases h : (k : Int) = j
    · rw [if_neg (by omega), if_pos (by omega), ← h, upZ_s]; omega
    · rw [upZ_n _ _ _ h]
      by_cases h2 : 0 ≤ j ∧ j < (k : Int)
      · rw [if_pos h2, if_pos (by omega)]; omega
      · rw [if_neg h2, if_neg (by omega)]
theorem chW_tot (n x k : Int) (w : Wt) : tot n (chW n x k w) = tot n w + k := by
  unfold chW
  by_cases h : x < 0
  · rw [if_pos h]; show w.1 + (w.2.1 + k) + sumZ w.2.2.2 n.toNat = w.1 + w.2.1 + sumZ w.2.2.2 n.toNat + k; omega
  · rw [if_neg h]
    by_cases h2 : x < n
    · rw [if_pos h2]
      show w.1 + w.2.1 + sumZ (upZ w.2.2.2 x (w.2.2.2 x + k)) n.toNat = w.1 + w.2.1 + sumZ w.2.2.2 n.toNat + k
      rw [sumZ_up, if_pos (by omega)]; omega
    · rw [if_neg h2]; show w.1 + k + w.2.1 + sumZ w.2.2.2 n.toNat = w.1 + w.2.1 + sumZ w.2.2.2 n.toNat + k; omega
theorem mvW_tot (n g k : Int) (w : Wt) : tot n (mvW n g k w) = tot n w := by unfold mvW; rw [chW_tot, chW_tot]; omega
theorem flW_tot (n L a g : Int) : ∀ (m : Nat) (w : Wt), tot n (flW n L a g m w).2 = tot n w
  | 0, _ => rfl
  | m + 1, w => by
    by_cases h : canW n L a g w = true
    · rw [flW_t _ h]; show tot n (flW n L a g m (mvW n g 1 w)).2 = _; rw [flW_tot n L a g m, mvW_tot]
    · rw [flW_f _ (by cases q : canW n L a g w with | false => rfl | true => exact absurd q h)]
theorem tick_tot (n j : Int) (w : Wt) : tot n (tickW j w) = tot n w := rfl
theorem rnW_tot (n L a g : Int) (m : Nat) (w : Wt) : tot n (rnW n L a g m w) = tot n w := by unfold rnW; rw [tick_tot, flW_tot]
theorem itW_tot {n : Int} {f : Wt → Wt} (hf : ∀ w, tot n (f w) = tot n w) (c t : Int) : ∀ (m : Nat) (w : Wt), tot n (itW f c t m w) = tot n w
  | 0, _ => rfl
  | m + 1, w => by
    show tot n (if t < w.2.2.2 c then itW f c t m (f w) else w) = _
    split
    · rw [itW_tot hf c t m, hf]
    · rfl
theorem loS_tot {n L a : Int} {lo : Wt → Wt} (hf : ∀ w, tot n (lo w) = tot n w) (c t : Int) (w : Wt) : tot n (loS n L a lo c t w) = tot n w := by
  unfold loS
  rw [rnW_tot]
  unfold pdW
  split
  · exact hf w
  · rfl
theorem loM_tot (n L a : Int) : ∀ (c : Nat) (t : Int) (w : Wt), tot n (loM n L a c t w) = tot n w
  | 0, t, w => itW_tot (fun w => loS_tot (lo := id) (fun _ => rfl) 0 t w) 0 t FU w
  | c + 1, t, w => itW_tot (fun w => loS_tot (fun w => loM_tot n L a c 0 w) _ t w) _ t FU w
theorem raM_tot (n L a : Int) : ∀ (d : Nat) (c t : Int) (w : Wt), tot n (raM n L a d c t w).2 = tot n w
  | 0, c, t, w => by
    unfold raM
    split
    · rfl
    · exact rnW_tot n L a _ _ w
  | d + 1, c, t, w => by
    unfold raM
    split
    · rfl
    · split
      · show tot n (rnW n L a (c + 1) _ _) = _; rw [rnW_tot, raM_tot n L a d]
      · exact raM_tot n L a d _ _ w
theorem lvG_tot (n L a g : Int) (w : Wt) : tot n (lvG n L a g w).2 = tot n w := by
  unfold lvG
  split
  · exact loM_tot n L a _ _ w
  · rw [raM_tot, loM_tot]
theorem lhM_tot (n L a : Int) : ∀ (m : Nat) (w : Wt), tot n (lhM n L a m w).2 = tot n w
  | 0, _ => rfl
  | m + 1, w => by
    unfold lhM
    split
    · rfl
    · split
      · rfl
      · split
        · rw [lhM_tot n L a m, tick_tot, flW_tot]
        · rw [lhM_tot n L a m, loM_tot]
theorem lvX_tot (n L a g : Int) (w : Wt) : tot n (lvX n L a g w).2 = tot n w := by
  unfold lvX
  split
  · exact lhM_tot n L a FU w
  · exact lvG_tot n L a g w
theorem brM_tot {n L a cnt b up : Int} {ln dr : Int → Int} : ∀ (k : Nat) (pl : Int → Int) (w : Wt), tot n (brM n L a cnt ln dr b up k pl w).2.1 = tot n w
  | 0, _, _ => rfl
  | k + 1, pl, w => by
    unfold brM
    split
    · rfl
    · split
      · split
        · rw [brM_tot k, lvX_tot]
        · exact lvX_tot n L a _ w
      · exact lvX_tot n L a _ w
theorem paW_tot (n L a : Int) (tn : Int → Int) : ∀ (k : Nat) (w : Wt), tot n (paW n L a tn k w).2 = tot n w
  | 0, _ => rfl
  | k + 1, w => by
    show tot n (flW n L a ((k : Nat) : Int) (4 * tnA tn ((k : Nat) : Int)).toNat (paW n L a tn k w).2).2 = _
    rw [flW_tot, paW_tot n L a tn k]
theorem psW_tot (n L a : Int) (tn : Int → Int) : ∀ (k : Nat) (w : Wt), tot n (psW n L a tn k w).2 = tot n w
  | 0, _ => rfl
  | k + 1, w => by
    show tot n (paW n L a tn (n + 1).toNat (tickW 1 (psW n L a tn k w).2)).2 = _
    rw [paW_tot, tick_tot, psW_tot n L a tn k]
-- open gates
theorem paW_keep {n L a : Int} {tn : Int → Int} (c : Int) (h0 : tnA tn c = 0) (h1 : tnA tn (c + 1) = 0) : ∀ (k : Nat) (w : Wt), (paW n L a tn k w).2.2.2.2 c = w.2.2.2 c
  | 0, _ => rfl
  | k + 1, w => by
    show (flW n L a ((k : Nat) : Int) (4 * tnA tn ((k : Nat) : Int)).toNat (paW n L a tn k w).2).2.2.2.2 c = _
    by_cases q : ((k : Nat) : Int) = c
    · rw [q, h0]; exact paW_keep c h0 h1 k w
    · by_cases r : ((k : Nat) : Int) = c + 1
      · rw [r, h1]; exact paW_keep c h0 h1 k w
      · rw [flW_keep n L a _ c (fun e => q e.symm) (by omega)]; exact paW_keep c h0 h1 k w
theorem paW_P {n L a : Int} {tn : Int → Int} (h0 : tnA tn n = 0) : ∀ (k : Nat) (w : Wt), (k : Int) ≤ n + 1 → (paW n L a tn k w).2.1 = w.1
  | 0, _, _ => rfl
  | k + 1, w, h => by
    show (flW n L a ((k : Nat) : Int) (4 * tnA tn ((k : Nat) : Int)).toNat (paW n L a tn k w).2).2.1 = _
    by_cases q : ((k : Nat) : Int) = n
    · rw [q, h0]; exact paW_P h0 k w (by omega)
    · rw [flW_P (by omega)]; exact paW_P h0 k w (by omega)
def GR (n L a : Int) (w : Wt) (op tn : Int → Int) : Prop := ∀ g, 0 ≤ g → g ≤ n → isO op g = true → hdA n L a w g = 0 ∧ beS tn g = false
theorem beS_f {tn : Int → Int} (ht : tnB tn) {g : Int} (h : beS tn g = false) : tnA tn (g - 1) = 0 ∧ tnA tn g = 0 ∧ tnA tn (g + 1) = 0 := by
  have t1 := tnA_b ht (g - 1)
  have t2 := tnA_b ht g
  have t3 := tnA_b ht (g + 1)
  unfold beS at h
  simp only [Bool.or_eq_false_iff, decide_eq_false_iff_not] at h
  omega
theorem pa_lv {n L a : Int} {tn : Int → Int} (hn : 1 ≤ n ∧ n ≤ 6) (w : Wt) {g : Int} (h1 : tnA tn g = 0) (h2 : g < n → tnA tn (g + 1) = 0) (hg : g ≤ n) : lvA n L a (paW n L a tn (n + 1).toNat w).2 g = lvA n L a w g := by
  unfold lvA
  by_cases q : g < 0
  · rw [if_pos q, if_pos q]
  · rw [if_neg q, if_neg q]
    by_cases r : g < n
    · rw [if_pos r, if_pos r, paW_keep g h1 (h2 r)]
    · have e : g = n := by omega
      subst e
      rw [if_neg r, if_neg r, paW_P h1 _ _ (by omega)]
theorem pa_GR {n L a : Int} {op tn : Int → Int} {w : Wt} (hn : 1 ≤ n ∧ n ≤ 6) (ht : tnB tn) (h : GR n L a w op tn) : GR n L a (paW n L a tn (n + 1).toNat (tickW 1 w)).2 op tn := by
  intro g g0 g1 ho
  obtain ⟨h1, h2⟩ := h g g0 g1 ho
  obtain ⟨t1, t2, t3⟩ := beS_f ht h2
  refine ⟨?_, h2⟩
  have e1 := pa_lv (L := L) (a := a) hn (tickW 1 w) t2 (fun _ => t3) g1
  have e2 := pa_lv (L := L) (a := a) hn (tickW 1 w) t1 (fun _ => by rw [show g - 1 + 1 = g by omega]; exact t2) (show g - 1 ≤ n by omega)
  unfold hdA
  rw [e1, e2]
  exact h1
theorem ps_GR {n L a : Int} {op tn : Int → Int} (hn : 1 ≤ n ∧ n ≤ 6) (ht : tnB tn) : ∀ (k : Nat) (w : Wt), GR n L a w op tn → GR n L a (psW n L a tn k w).2 op tn
  | 0, _, h => h
  | k + 1, w, h => pa_GR hn ht (ps_GR hn ht k w h)
theorem GR_0 {n L a : Int} {w : Wt} {op tn : Int → Int} (hn : 1 ≤ n ∧ n ≤ 6) : GR n L a w (zrZ op 7) tn := by
  intro g g0 g1 ho
  rw [isO_zr (by omega)] at ho
  exact absurd ho (by decide)
theorem GR_op {n L a x : Int} {w : Wt} {op tn : Int → Int} (h : GR n L a w op tn) (hx : opO n L a w op tn x = 0) : GR n L a w (upZ op x 1) tn := by
  have h1 : ¬ isO op x = true ∧ ¬ beS tn x = true ∧ hdA n L a w x = 0 := by
    unfold opO at hx
    by_cases a1 : isO op x = true
    · rw [if_pos a1] at hx; exact absurd hx (by decide)
    · rw [if_neg a1] at hx
      by_cases a2 : beS tn x = true
      · rw [if_pos a2] at hx; exact absurd hx (by decide)
      · rw [if_neg a2] at hx
        by_cases a3 : hdA n L a w x = 0
        · exact ⟨a1, a2, a3⟩
        · rw [if_neg a3] at hx; exact absurd hx (by decide)
  intro g g0 g1 ho
  by_cases q : g = x
  · subst q; exact ⟨h1.2.2, by cases r : beS tn g with | false => rfl | true => exact absurd r h1.2.1⟩
  · refine h g g0 g1 (isO_iff.mpr ?_)
    have := isO_iff.mp ho
    rw [upZ_n _ _ _ q] at this
    exact this
theorem GR_sh {n L a x : Int} {w : Wt} {op tn : Int → Int} (h : GR n L a w op tn) : GR n L a w (upZ op x 0) tn := by
  intro g g0 g1 ho
  have h2 := isO_iff.mp ho
  by_cases q : g = x
  · subst q; rw [upZ_s] at h2; exact absurd h2.2.2 (by decide)
  · rw [upZ_n _ _ _ q] at h2
    exact h g g0 g1 (isO_iff.mpr h2)
theorem tnA_n {tn : Int → Int} {x y z : Int} (h : z ≠ x) : tnA (upZ tn x y) z = tnA tn z := by unfold tnA; rw [upZ_n _ _ _ h]
theorem GR_wi {n L a x y : Int} {w : Wt} {op tn : Int → Int} (ht : tnB tn) (h : GR n L a w op tn) (hx : 0 ≤ x ∧ x ≤ 6) (hy : y = 0 ∨ ¬ beO op x = true) : GR n L a w op (upZ tn x y) := by
  intro g g0 g1 ho
  obtain ⟨h1, h2⟩ := h g g0 g1 ho
  refine ⟨h1, ?_⟩
  obtain ⟨t1, t2, t3⟩ := beS_f ht h2
  have key : ∀ z, (z = g - 1 ∨ z = g ∨ z = g + 1) → tnA (upZ tn x y) z = 0 := by
    intro z hz
    by_cases q : z = x
    · rcases hy with hy | hy
      · subst q; unfold tnA; rw [upZ_s, hy]; split <;> rfl
      · exfalso
        apply hy
        unfold beO
        simp only [Bool.or_eq_true]
        rcases hz with hz | hz | hz
        · exact Or.inr (by rw [show x + 1 = g by omega]; exact ho)
        · exact Or.inl (Or.inr (by rw [show x = g by omega]; exact ho))
        · exact Or.inl (Or.inl (by rw [show x - 1 = g by omega]; exact ho))
    · rw [tnA_n q]
      rcases hz with hz | hz | hz <;> subst hz <;> assumption
  unfold beS
  simp only [Bool.or_eq_false_iff, decide_eq_false_iff_not]
  rw [key _ (Or.inl rfl), key _ (Or.inr (Or.inl rfl)), key _ (Or.inr (Or.inr rfl))]
  decide
theorem GR_ra {n L a x : Int} {w w' : Wt} {op tn : Int → Int} (h : GR n L a w op tn) (ho : ¬ isO op n = true) (hw : w'.2.2.2 = w.2.2.2) : GR n L a w' op tn := by
  intro g g0 g1 hg
  obtain ⟨h1, h2⟩ := h g g0 g1 hg
  refine ⟨?_, h2⟩
  have hgn : g < n := by
    by_cases q : g = n
    · subst q; exact absurd hg ho
    · omega
  have e : ∀ k, k < n → lvA n L a w' k = lvA n L a w k := by
    intro k hk
    unfold lvA
    by_cases q : k < 0
    · rw [if_pos q, if_pos q]
    · rw [if_neg q, if_neg q, if_pos hk, if_pos hk, hw]
  unfold hdA
  rw [e g hgn, e (g - 1) (by omega)]
  exact h1
-- boats
def BF (n cnt : Int) (ln pl : Int → Int) : Prop := ∀ x, 1 ≤ x → x ≤ n → sumZ (lenP pl ln x) cnt.toNat ≤ 60
theorem lenP_up (pl ln : Int → Int) (x b q : Int) : lenP (upZ pl b q) ln x = upZ (lenP pl ln x) b (if q = x then ln b else 0) := by
  funext c
  by_cases h : c = b
  · subst h; rw [upZ_s]; unfold lenP; rw [upZ_s]
  · rw [upZ_n _ _ _ h]; unfold lenP; rw [upZ_n _ _ _ h]
theorem BF_mv {n a cnt b q : Int} {w : Wt} {ln dr pl : Int → Int} (h : BF n cnt ln pl) (hl : lnB ln) (hb : 0 ≤ b ∧ b < cnt) (hq : pl b ≠ q) (ho : obI n a w cnt ln dr pl q b = 0) : BF n cnt ln (upZ pl b q) := by
  intro x x0 x1
  rw [lenP_up, sumZ_up, if_pos (by omega)]
  have hx := h x x0 x1
  have hp := lenP_b (pl := pl) hl x b
  by_cases e : q = x
  · subst e
    rw [if_pos rfl]
    have e0 : lenP pl ln q b = 0 := if_neg hq
    unfold obI at ho
    rw [if_neg (by omega), if_neg (by omega)] at ho
    by_cases r : sumZ (lenP pl ln q) cnt.toNat + ln b ≤ 60
    · omega
    · rw [if_neg r] at ho; exact absurd ho (by decide)
  · rw [if_neg e]; omega
theorem brM_BF {n L a cnt b up : Int} {ln dr : Int → Int} (hl : lnB ln) (hb : 0 ≤ b ∧ b < cnt) (hup : up = 0 ∨ up = 1) : ∀ (k : Nat) (pl : Int → Int) (w : Wt), BF n cnt ln pl → BF n cnt ln (brM n L a cnt ln dr b up k pl w).1
  | 0, _, _, h => h
  | k + 1, pl, w, h => by
    by_cases he : pl b = endA n up
    · rw [brM_e _ he]; exact h
    · by_cases hX : (lvX n L a (gtA (pl b) (plN pl b up)) w).1 = true
      · by_cases ho : obI n a (lvX n L a (gtA (pl b) (plN pl b up)) w).2 cnt ln dr pl (plN pl b up) b = 0
        · rw [brM_s k he rfl hX ho]
          exact brM_BF hl hb hup k _ _ (BF_mv h hl hb (by unfold plN; split <;> omega) ho)
        · rw [brM_o k he rfl hX ho]; exact h
      · rw [brM_x k he rfl rfl hX]; exact h
theorem mvO_z {n a : Int} {w : Wt} {op : Int → Int} {cnt : Int} {ln dr pl : Int → Int} {b up : Int} (h : mvO n a w op cnt ln dr pl b up = 0) : (0 ≤ plN pl b up ∧ plN pl b up ≤ n + 1) ∧ obI n a w cnt ln dr pl (plN pl b up) b = 0 := by
  unfold mvO at h
  by_cases h1 : plN pl b up < 0 ∨ n + 1 < plN pl b up
  · rw [if_pos h1] at h; exact absurd h (by decide)
  · rw [if_neg h1] at h
    by_cases h2 : isO op (gtA (pl b) (plN pl b up)) = true
    · rw [if_pos h2] at h; exact ⟨by omega, h⟩
    · rw [if_neg h2] at h; exact absurd h (by decide)
theorem BF_ad {n cnt x q : Int} {ln pl : Int → Int} (h : BF n cnt ln pl) (hc : 0 ≤ cnt) (hq : q = 0 ∨ q = n + 1) : BF n (cnt + 1) (upZ ln cnt x) (upZ pl cnt q) := by
  intro y y0 y1
  rw [sumZ_s _ hc]
  have e1 : lenP (upZ pl cnt q) (upZ ln cnt x) y cnt = 0 := by
    unfold lenP; rw [upZ_s, if_neg (by omega)]
  have e2 : sumZ (lenP (upZ pl cnt q) (upZ ln cnt x) y) cnt.toNat = sumZ (lenP pl ln y) cnt.toNat := by
    refine sumZ_ext _ (fun j j0 j1 => ?_)
    unfold lenP
    rw [upZ_n _ _ _ (show j ≠ cnt by omega), upZ_n _ _ _ (show j ≠ cnt by omega)]
  rw [e1, e2]
  have := h y y0 y1
  omega
