-- gates, boats, report
def isO (op : Int → Int) (g : Int) : Bool := decide (0 ≤ g) && decide (g < 7) && decide (op g = 1)
theorem isO_iff {op : Int → Int} {g : Int} : isO op g = true ↔ 0 ≤ g ∧ g < 7 ∧ op g = 1 := by
  unfold isO; simp only [Bool.and_eq_true, decide_eq_true_eq, and_assoc]
def tnA (tn : Int → Int) (g : Int) : Int := if 0 ≤ g ∧ g < 7 then tn g else 0
def opB (op : Int → Int) : Prop := ∀ z, op z = 0 ∨ op z = 1
def tnB (tn : Int → Int) : Prop := ∀ z, 0 ≤ tn z ∧ tn z ≤ 5
theorem tnA_b {tn : Int → Int} (h : tnB tn) (g : Int) : 0 ≤ tnA tn g ∧ tnA tn g ≤ 5 := by
  unfold tnA
  by_cases q : 0 ≤ g ∧ g < 7
  · rw [if_pos q]; exact h g
  · rw [if_neg q]; omega
def isS (tn : Int → Int) (g : Int) : Bool := decide (0 < tnA tn g)
def beO (op : Int → Int) (g : Int) : Bool := isO op (g - 1) || isO op g || isO op (g + 1)
def beS (tn : Int → Int) (g : Int) : Bool := decide (0 < tnA tn (g - 1)) || decide (0 < tnA tn g) || decide (0 < tnA tn (g + 1))
/-- the first k places are put to 0 -/
def zrZ (f : Int → Int) (k : Int) : Int → Int := fun j => if 0 ≤ j ∧ j < k then 0 else f j
theorem zrZ_0 (f : Int → Int) : zrZ f 0 = f := by
  funext j; unfold zrZ; rw [if_neg (by omega)]
theorem zrZ_s (f : Int → Int) {k : Int} (h : 0 ≤ k) : upZ (zrZ f k) k 0 = zrZ f (k + 1) := by
  funext j
  unfold upZ zrZ
  by_cases c1 : j = k
  · rw [if_pos c1, if_pos (by omega)]
  · rw [if_neg c1]
    by_cases c2 : 0 ≤ j ∧ j < k
    · rw [if_pos c2, if_pos (by omega)]
    · rw [if_neg c2, if_neg (by omega)]
def plN (pl : Int → Int) (b up : Int) : Int := pl b + (if up = 0 then -1 else 1)
def lenP (pl ln : Int → Int) (p : Int) (b : Int) : Int := if pl b = p then ln b else 0
def cntP (pl : Int → Int) (p : Int) (b : Int) : Int := if pl b = p then 1 else 0
def rpS (rp : Rt) : Int := if rp.2.2.2 = -1 then 0 else rp.2.2.1 + 2
def rpK (rp : Rt) (i : Int) : Int := if i < 0 ∨ rpS rp ≤ i then -1 else if i = 0 then 6 else if i ≤ rp.2.2.1 then 7 else rp.2.2.2
def rpN (rp : Rt) (i : Int) : Int := if rpK rp i = 6 then rp.1 else if rpK rp i = 7 then rp.2.1 + i - 1 else -1
def RI (rp : Rt) : Prop := (-1 ≤ rp.1 ∧ rp.1 ≤ 7) ∧ (-2 ≤ rp.2.1 ∧ rp.2.1 ≤ 7) ∧ (0 ≤ rp.2.2.1 ∧ rp.2.2.1 ≤ 8) ∧ (-1 ≤ rp.2.2.2 ∧ rp.2.2.2 ≤ 5)
def lnB (ln : Int → Int) : Prop := ∀ b, 0 ≤ ln b ∧ ln b ≤ 60
def plB (pl : Int → Int) : Prop := ∀ b, 0 ≤ pl b ∧ pl b ≤ 7
theorem sumZ_b {f : Int → Int} {lo hi : Int} (h : ∀ z, lo ≤ f z ∧ f z ≤ hi) : ∀ k : Nat, (k : Int) * lo ≤ sumZ f k ∧ sumZ f k ≤ (k : Int) * hi
  | 0 => by show ((0 : Nat) : Int) * lo ≤ 0 ∧ 0 ≤ ((0 : Nat) : Int) * hi; simp
  | k + 1 => by
    have ih := sumZ_b h k
    have h1 := h k
    show ((k + 1 : Nat) : Int) * lo ≤ sumZ f k + f k ∧ sumZ f k + f k ≤ ((k + 1 : Nat) : Int) * hi
    have e1 : ((k + 1 : Nat) : Int) * lo = (k : Int) * lo + lo := by rw [Int.natCast_add]; exact mu_1 k lo
    have e2 : ((k + 1 : Nat) : Int) * hi = (k : Int) * hi + hi := by rw [Int.natCast_add]; exact mu_1 k hi
    omega
theorem lenP_b {pl ln : Int → Int} (hln : lnB ln) (p b : Int) : 0 ≤ lenP pl ln p b ∧ lenP pl ln p b ≤ 60 := by
  unfold lenP
  by_cases q : pl b = p
  · rw [if_pos q]; exact hln b
  · rw [if_neg q]; omega
theorem lenS_b {pl ln : Int → Int} (hln : lnB ln) (p : Int) {c : Int} (h0 : 0 ≤ c) (h : c ≤ 10) : 0 ≤ sumZ (lenP pl ln p) c.toNat ∧ sumZ (lenP pl ln p) c.toNat ≤ 600 := by
  have h1 := sumZ_b (lenP_b (pl := pl) hln p) c.toNat
  rw [Int.toNat_of_nonneg h0] at h1
  omega
