def wr (z : Int) : Int := (iI z).toInt
theorem iI_wr (z : Int) : iI z = iI (wr z) := (iI_of (iI z)).symm
theorem wr_bd (z : Int) : -2147483648 ≤ wr z ∧ wr z < 2147483648 := ib_of (iI z)
theorem sumZ_ext {f g : Int → Int} : ∀ k : Nat, (∀ j : Int, 0 ≤ j → j < (k : Int) → f j = g j) → sumZ f k = sumZ g k
  | 0, _ => rfl
  | k + 1, h => by
    show sumZ f k + f k = sumZ g k + g k
    rw [sumZ_ext k (fun j h0 h1 => h j h0 (by omega)), h k (by omega) (by omega)]
theorem sumZ_more {f : Int → Int} (m : Nat) : ∀ k : Nat, (∀ j : Int, (m : Int) ≤ j → f j = 0) → sumZ f (m + k) = sumZ f m
  | 0, _ => rfl
  | k + 1, h => by
    show sumZ f (m + k) + f ((m + k : Nat) : Int) = sumZ f m
    rw [sumZ_more m k h, h _ (by omega)]; omega
theorem sumZ_tail {f : Int → Int} {n : Int} (hn : 1 ≤ n ∧ n ≤ 6) (h : ∀ j, n < j → f j = 0) : sumZ f (n + 1).toNat = sumZ f 7 := by
  obtain ⟨k, hk⟩ : ∃ k : Nat, 7 = (n + 1).toNat + k := ⟨(6 - n).toNat, by omega⟩
  rw [hk, sumZ_more _ k (fun j q => h j (by omega))]
def psW (n L a : Int) (tn : Int → Int) : Nat → Wt → Int × Wt
  | 0, w => (0, w)
  | k + 1, w => ((psW n L a tn k w).1 + (paW n L a tn (n + 1).toNat (tickW 1 (psW n L a tn k w).2)).1, (paW n L a tn (n + 1).toNat (tickW 1 (psW n L a tn k w).2)).2)
theorem psW_s (n L a : Int) (tn : Int → Int) (w : Wt) {j : Int} (h : 0 ≤ j) : psW n L a tn (j + 1).toNat w = ((psW n L a tn j.toNat w).1 + (paW n L a tn (n + 1).toNat (tickW 1 (psW n L a tn j.toNat w).2)).1, (paW n L a tn (n + 1).toNat (tickW 1 (psW n L a tn j.toNat w).2)).2) := by
  have e : (j + 1).toNat = j.toNat + 1 := by omega
  rw [e]; rfl
theorem psW_WI {n L a : Int} {tn : Int → Int} (hn : 1 ≤ n ∧ n ≤ 6) (hL : 5 ≤ L ∧ L ≤ 40) (ha : 1 ≤ a ∧ a ≤ 50) : ∀ (k : Nat) (w : Wt), WI n L a w → WI n L a (psW n L a tn k w).2
  | 0, _, h => h
  | k + 1, w, h => paW_WI hn hL ha _ _ (by omega) (tickW_WI (psW_WI hn hL ha k w h))
theorem hd_bo {n L a : Int} {w : Wt} (hn : 1 ≤ n ∧ n ≤ 6) (hL : 5 ≤ L ∧ L ≤ 40) (ha : 1 ≤ a ∧ a ≤ 50) (hw : WI n L a w) {g : Int} (hg : 0 ≤ g ∧ g ≤ n) : -4000 ≤ hdA n L a w g ∧ hdA n L a w g ≤ 4000 := by
  have b1 := lvA_b hn hL ha hw g hg.2
  have b2 := lvA_b hn hL ha hw (g - 1) (by omega)
  unfold hdA; omega
theorem opO_b (n L a : Int) (w : Wt) (op tn : Int → Int) (g : Int) : 0 ≤ opO n L a w op tn g ∧ opO n L a w op tn g ≤ 3 := by unfold opO; (repeat' split) <;> omega
theorem mvO_b (n a : Int) (w : Wt) (op : Int → Int) (cnt : Int) (ln dr pl : Int → Int) (b up : Int) : 0 ≤ mvO n a w op cnt ln dr pl b up ∧ mvO n a w op cnt ln dr pl b up ≤ 4 := by
  have h := obI_b n a w cnt ln dr pl (plN pl b up) b
  unfold mvO; (repeat' split) <;> omega
