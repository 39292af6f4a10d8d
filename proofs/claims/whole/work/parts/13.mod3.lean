-- the ladder
theorem nw_X2_97 : Cond.fieldLinkNest RX2 97 "LockStaircase$Water" "minutes" "I" "LockStaircase" ∈ nwL := by decide +kernel
theorem nw_X5_119 : Cond.fieldLinkNest RX5 119 "LockStaircase$Fleet" "count" "I" "LockStaircase" ∈ nwL := by decide +kernel
theorem nw_X5_42 : Cond.fieldLinkNest RX5 42 "LockStaircase$Water" "pound" "I" "LockStaircase" ∈ nwL := by decide +kernel
theorem nw_X5_185 : Cond.fieldLinkNest RX5 185 "LockStaircase$Water" "lost" "I" "LockStaircase" ∈ nwL := by decide +kernel
theorem nw_X5_108 : Cond.fieldLinkNest RX5 108 "LockStaircase$Water" "minutes" "I" "LockStaircase" ∈ nwL := by decide +kernel
theorem nw_X5_21 : Cond.fieldLinkNest RX5 21 "LockStaircase$Ladder" "water" "LLockStaircase$Water;" "LockStaircase" ∈ nwL := by decide +kernel
theorem nw_X5_53 : Cond.fieldLinkNest RX5 53 "LockStaircase$Ladder" "gates" "LLockStaircase$Gates;" "LockStaircase" ∈ nwL := by decide +kernel
theorem nw_X5_115 : Cond.fieldLinkNest RX5 115 "LockStaircase$Ladder" "fleet" "LLockStaircase$Fleet;" "LockStaircase" ∈ nwL := by decide +kernel
theorem nw_X5_166 : Cond.fieldLinkNest RX5 166 "LockStaircase$Ladder" "report" "LLockStaircase$Report;" "LockStaircase" ∈ nwL := by decide +kernel
def opO (n L a : Int) (w : Wt) (op tn : Int → Int) (g : Int) : Int := if isO op g = true then 1 else if beS tn g = true then 2 else if hdA n L a w g = 0 then 0 else 3
def gtA (x y : Int) : Int := if y < x then y else x
def obI (n a : Int) (w : Wt) (cnt : Int) (ln dr pl : Int → Int) (p b : Int) : Int := if p = n + 1 then (if w.1 / a < dr b then 4 else 0) else if p = 0 then 0 else if sumZ (lenP pl ln p) cnt.toNat + ln b ≤ 60 then 0 else 3
theorem obI_b (n a : Int) (w : Wt) (cnt : Int) (ln dr pl : Int → Int) (p b : Int) : 0 ≤ obI n a w cnt ln dr pl p b ∧ obI n a w cnt ln dr pl p b ≤ 4 := by unfold obI; (repeat' split) <;> omega
def mvO (n a : Int) (w : Wt) (op : Int → Int) (cnt : Int) (ln dr pl : Int → Int) (b up : Int) : Int := if plN pl b up < 0 ∨ n + 1 < plN pl b up then 1 else if isO op (gtA (pl b) (plN pl b up)) = true then obI n a w cnt ln dr pl (plN pl b up) b else 2
/-- a minute: the gates in ascending order -/
def paW (n L a : Int) (tn : Int → Int) : Nat → Wt → Int × Wt
  | 0, w => (0, w)
  | k + 1, w => ((paW n L a tn k w).1 + (flW n L a (k : Int) (4 * tnA tn (k : Int)).toNat (paW n L a tn k w).2).1, (flW n L a (k : Int) (4 * tnA tn (k : Int)).toNat (paW n L a tn k w).2).2)
theorem paW_s (n L a : Int) (tn : Int → Int) (w : Wt) {j : Int} (h : 0 ≤ j) : paW n L a tn (j + 1).toNat w = ((paW n L a tn j.toNat w).1 + (flW n L a j (4 * tnA tn j).toNat (paW n L a tn j.toNat w).2).1, (flW n L a j (4 * tnA tn j).toNat (paW n L a tn j.toNat w).2).2) := by
  obtain ⟨k, rfl⟩ : ∃ k : Nat, j = (k : Int) := ⟨j.toNat, by omega⟩
  have e : ((k : Int) + 1).toNat = k + 1 := by omega
  rw [e, Int.toNat_natCast]
  rfl
theorem paW_WI {n L a : Int} {tn : Int → Int} (hn : 1 ≤ n ∧ n ≤ 6) (hL : 5 ≤ L ∧ L ≤ 40) (ha : 1 ≤ a ∧ a ≤ 50) : ∀ (k : Nat) (w : Wt), (k : Int) ≤ n + 1 → WI n L a w → WI n L a (paW n L a tn k w).2
  | 0, _, _, h => h
  | k + 1, w, hk, h => (flW_WI hn hL ha (g := (k : Int)) (by omega) _ _ (paW_WI hn hL ha k w (by omega) h)).1
def lvX (n L a g : Int) (w : Wt) : Bool × Wt := if g = n then lhM n L a FU w else lvG n L a g w
def flX (n g : Int) : Int := if g = n then 0 else n - g + 1
def endA (n up : Int) : Int := if up = 0 then 0 else n + 1
/-- a boat is brought to its end, most k steps: the places, the water, and why it failed: gate, chambers, reason (-1: it did not) -/
def brM (n L a cnt : Int) (ln dr : Int → Int) (b up : Int) : Nat → (Int → Int) → Wt → (Int → Int) × Wt × (Int × Int × Int)
  | 0, pl, w => (pl, w, (0, 0, -1))
  | k + 1, pl, w =>
    if pl b = endA n up then (pl, w, (0, 0, -1))
    else if (lvX n L a (gtA (pl b) (plN pl b up)) w).1 = true then
      (if obI n a (lvX n L a (gtA (pl b) (plN pl b up)) w).2 cnt ln dr pl (plN pl b up) b = 0 then brM n L a cnt ln dr b up k (upZ pl b (plN pl b up)) (lvX n L a (gtA (pl b) (plN pl b up)) w).2
       else (pl, (lvX n L a (gtA (pl b) (plN pl b up)) w).2, (gtA (pl b) (plN pl b up), 0, obI n a (lvX n L a (gtA (pl b) (plN pl b up)) w).2 cnt ln dr pl (plN pl b up) b)))
    else (pl, (lvX n L a (gtA (pl b) (plN pl b up)) w).2, (gtA (pl b) (plN pl b up), flX n (gtA (pl b) (plN pl b up)), 5))
def rpF (rp : Rt) (q : Int × Int × Int) : Rt := if q.2.2 = -1 then (rp.1, rp.2.1, rp.2.2.1, -1) else (q.1, q.1 - 1, q.2.1, q.2.2)
section BR
variable {n L a cnt b up : Int} {ln dr pl : Int → Int} {w : Wt} {X : Bool × Wt} {f : Int}
theorem brM_e (k : Nat) (h : pl b = endA n up) : brM n L a cnt ln dr b up k pl w = (pl, w, (0, 0, -1)) := by
  cases k with
  | zero => rfl
  | succ k => unfold brM; rw [if_pos h]
theorem brM_x (k : Nat) (h : pl b ≠ endA n up) (hX : lvX n L a (gtA (pl b) (plN pl b up)) w = X) (hf : flX n (gtA (pl b) (plN pl b up)) = f) (hr : ¬ X.1 = true) : brM n L a cnt ln dr b up (k + 1) pl w = (pl, X.2, (gtA (pl b) (plN pl b up), f, 5)) := by
  subst hX; subst hf
  show (if pl b = endA n up then _ else if (lvX n L a (gtA (pl b) (plN pl b up)) w).1 = true then _ else _) = _
  rw [if_neg h, if_neg hr]
theorem brM_o (k : Nat) (h : pl b ≠ endA n up) (hX : lvX n L a (gtA (pl b) (plN pl b up)) w = X) (hr : X.1 = true) (ho : ¬ obI n a X.2 cnt ln dr pl (plN pl b up) b = 0) : brM n L a cnt ln dr b up (k + 1) pl w = (pl, X.2, (gtA (pl b) (plN pl b up), 0, obI n a X.2 cnt ln dr pl (plN pl b up) b)) := by
  subst hX
  show (if pl b = endA n up then _ else if (lvX n L a (gtA (pl b) (plN pl b up)) w).1 = true then (if obI n a (lvX n L a (gtA (pl b) (plN pl b up)) w).2 cnt ln dr pl (plN pl b up) b = 0 then _ else _) else _) = _
  rw [if_neg h, if_pos hr, if_neg ho]
theorem brM_s (k : Nat) (h : pl b ≠ endA n up) (hX : lvX n L a (gtA (pl b) (plN pl b up)) w = X) (hr : X.1 = true) (ho : obI n a X.2 cnt ln dr pl (plN pl b up) b = 0) : brM n L a cnt ln dr b up (k + 1) pl w = brM n L a cnt ln dr b up k (upZ pl b (plN pl b up)) X.2 := by
  subst hX
  show (if pl b = endA n up then _ else if (lvX n L a (gtA (pl b) (plN pl b up)) w).1 = true then (if obI n a (lvX n L a (gtA (pl b) (plN pl b up)) w).2 cnt ln dr pl (plN pl b up) b = 0 then brM n L a cnt ln dr b up k (upZ pl b (plN pl b up)) (lvX n L a (gtA (pl b) (plN pl b up)) w).2 else _) else _) = _
  rw [if_neg h, if_pos hr, if_pos ho]
end BR
theorem lvG_WI {n L a g : Int} {w : Wt} (hn : 1 ≤ n ∧ n ≤ 6) (hL : 5 ≤ L ∧ L ≤ 40) (ha : 1 ≤ a ∧ a ≤ 50) (hg : 0 ≤ g ∧ g < n) (h : WI n L a w) : WI n L a (lvG n L a g w).2 := by
  have h1 := loM_WI hn hL ha g.toNat 0 w (by omega) h
  unfold lvG
  by_cases q : g = 0
  · rw [if_pos q]; exact h1
  · rw [if_neg q]; exact raM_WI hn hL ha _ _ _ _ (by omega) (by omega) h1
theorem lhM_WI {n L a : Int} (hn : 1 ≤ n ∧ n ≤ 6) (hL : 5 ≤ L ∧ L ≤ 40) (ha : 1 ≤ a ∧ a ≤ 50) : ∀ (m : Nat) (w : Wt), WI n L a w → WI n L a (lhM n L a m w).2
  | 0, _, h => h
  | m + 1, w, h => by
    by_cases h1 : hdA n L a w n = 0
    · rw [lhM_z _ h1]; exact h
    · by_cases h2 : lvA n L a w n < (n - 1) * L
      · rw [lhM_b _ h1 h2]; exact h
      · by_cases h3 : 0 < hdA n L a w n
        · rw [lhM_u _ h1 h2 h3]; exact lhM_WI hn hL ha m _ (flW_WI hn hL ha (by omega) 20 w h).1
        · rw [lhM_d _ h1 h2 h3]; exact lhM_WI hn hL ha m _ (loM_WI hn hL ha _ _ _ (by omega) h)
def plI (n : Int) (pl : Int → Int) : Prop := ∀ b, 0 ≤ pl b ∧ pl b ≤ n + 1
theorem plI_B {n : Int} {pl : Int → Int} (hn : 1 ≤ n ∧ n ≤ 6) (h : plI n pl) : plB pl := fun b => by have := h b; omega
theorem plI_up {n : Int} {pl : Int → Int} (h : plI n pl) {b x : Int} (hx : 0 ≤ x ∧ x ≤ n + 1) : plI n (upZ pl b x) := by
  intro c
  by_cases q : c = b
  · subst q; rw [upZ_s]; exact hx
  · rw [upZ_n _ _ _ q]; exact h c
