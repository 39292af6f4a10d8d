theorem muH_le {n L a : Int} {w : Wt} (h : ¬ 0 < hdA n L a w n) : muH n L a w ≤ 1 := by unfold muH; rw [if_neg h]; split <;> omega
theorem muH_2 {n L a : Int} {w : Wt} (h : 0 < hdA n L a w n) : muH n L a w = 2 := by unfold muH; rw [if_pos h]
theorem muH_0 {n L a : Int} {w : Wt} (h : hdA n L a w n = 0) : muH n L a w = 0 := by unfold muH; rw [if_neg (by omega), if_pos h]
theorem muH_1 {n L a : Int} {w : Wt} (h : ¬ hdA n L a w n = 0) (h2 : ¬ 0 < hdA n L a w n) : muH n L a w = 1 := by unfold muH; rw [if_neg h2, if_neg h]
theorem muH_g (n L a : Int) (w : Wt) : 0 ≤ muH n L a w := by unfold muH; (repeat' split) <;> omega
def lkd (n g e : Int) (f : Int → Int) : Int → Int := if g = n then shZ f e 5 else fkd (n - g).toNat e f
def lnb (n g e : Int) (f : Int → Int) : Int → Int := if g = n then shZ f e (-1) else fnb (n - g).toNat e (g - 1) f
def lne (n g e : Int) : Int := if g = n then e + 1 else e + (((n - g).toNat : Nat) : Int) + 2
def ckf (X1 : Bool) (o n g e : Int) (f : Int → Int) : Int → Int := if X1 = true then shZ (shZ f e o) (e + 1) 6 else shZ (lkd n g e f) (lne n g e) 6
def cnf (X1 : Bool) (n g e : Int) (f : Int → Int) : Int → Int := if X1 = true then shZ (shZ f e (-1)) (e + 1) g else shZ (lnb n g e f) (lne n g e) g
def cef (X1 : Bool) (n g e : Int) : Int := if X1 = true then e + 1 + 1 else lne n g e + 1
def tkd (n : Int) (q : Int × Int × Int) (f : Int → Int) : Int → Int := if q.2.2 = -1 then f else if q.2.2 = 5 then shZ (lkd n q.1 0 f) (lne n q.1 0) 6 else shZ (shZ f 0 q.2.2) 1 6
def tnb (n : Int) (q : Int × Int × Int) (f : Int → Int) : Int → Int := if q.2.2 = -1 then f else if q.2.2 = 5 then shZ (lnb n q.1 0 f) (lne n q.1 0) q.1 else shZ (shZ f 0 (-1)) 1 q.1
def ten (n : Int) (q : Int × Int × Int) : Int := if q.2.2 = -1 then 0 else if q.2.2 = 5 then lne n q.1 0 + 1 else 2
theorem lvX_0 {n L a g : Int} {w : Wt} (hn : 1 ≤ n ∧ n ≤ 6) (hg : g = 0) : (lvX n L a g w).1 = true := by
  unfold lvX lvG; rw [if_neg (by omega), if_pos hg]
theorem lvX_WI {n L a g : Int} {w : Wt} (hn : 1 ≤ n ∧ n ≤ 6) (hL : 5 ≤ L ∧ L ≤ 40) (ha : 1 ≤ a ∧ a ≤ 50) (hg : 0 ≤ g ∧ g ≤ n) (h : WI n L a w) : WI n L a (lvX n L a g w).2 := by
  unfold lvX
  by_cases q : g = n
  · rw [if_pos q]; exact lhM_WI hn hL ha _ _ h
  · rw [if_neg q]; exact lvG_WI hn hL ha (by omega) h
theorem lne_b {n g : Int} (hn : 1 ≤ n ∧ n ≤ 6) (hg : 1 ≤ g ∧ g ≤ n) : 0 ≤ lne n g 0 ∧ lne n g 0 ≤ 7 := by unfold lne; split <;> omega
def dsA (n up x : Int) : Int := if up = 0 then x else n + 1 - x
theorem tk_fail {n L a cnt b up : Int} {ln dr pl : Int → Int} {w : Wt} (k : Nat) (h : pl b ≠ endA n up) (hc : ¬ ((lvX n L a (gtA (pl b) (plN pl b up)) w).1 = true ∧ obI n a (lvX n L a (gtA (pl b) (plN pl b up)) w).2 cnt ln dr pl (plN pl b up) b = 0)) (f : Int → Int) :
    (brM n L a cnt ln dr b up (k + 1) pl w).1 = pl ∧ (brM n L a cnt ln dr b up (k + 1) pl w).2.1 = (lvX n L a (gtA (pl b) (plN pl b up)) w).2 ∧
    tkd n (brM n L a cnt ln dr b up (k + 1) pl w).2.2 f = ckf (lvX n L a (gtA (pl b) (plN pl b up)) w).1 (obI n a (lvX n L a (gtA (pl b) (plN pl b up)) w).2 cnt ln dr pl (plN pl b up) b) n (gtA (pl b) (plN pl b up)) 0 f ∧
    tnb n (brM n L a cnt ln dr b up (k + 1) pl w).2.2 f = cnf (lvX n L a (gtA (pl b) (plN pl b up)) w).1 n (gtA (pl b) (plN pl b up)) 0 f ∧
    ten n (brM n L a cnt ln dr b up (k + 1) pl w).2.2 = cef (lvX n L a (gtA (pl b) (plN pl b up)) w).1 n (gtA (pl b) (plN pl b up)) 0 ∧
    (brM n L a cnt ln dr b up (k + 1) pl w).2.2.2.2 ≠ -1 := by
  have ob := obI_b n a (lvX n L a (gtA (pl b) (plN pl b up)) w).2 cnt ln dr pl (plN pl b up) b
  by_cases hX : (lvX n L a (gtA (pl b) (plN pl b up)) w).1 = true
  · have ho : ¬ obI n a (lvX n L a (gtA (pl b) (plN pl b up)) w).2 cnt ln dr pl (plN pl b up) b = 0 := fun q => hc ⟨hX, q⟩
    rw [brM_o k h rfl hX ho]
    refine ⟨rfl, rfl, ?_, ?_, ?_, ?_⟩
    · unfold tkd ckf; rw [if_pos hX, if_neg (by show ¬ obI n a _ cnt ln dr pl _ b = -1; omega), if_neg (by show ¬ obI n a _ cnt ln dr pl _ b = 5; omega)]; rfl
    · unfold tnb cnf; rw [if_pos hX, if_neg (by show ¬ obI n a _ cnt ln dr pl _ b = -1; omega), if_neg (by show ¬ obI n a _ cnt ln dr pl _ b = 5; omega)]; rfl
    · unfold ten cef; rw [if_pos hX, if_neg (by show ¬ obI n a _ cnt ln dr pl _ b = -1; omega), if_neg (by show ¬ obI n a _ cnt ln dr pl _ b = 5; omega)]; rfl
    · show obI n a _ cnt ln dr pl _ b ≠ -1; omega
  · rw [brM_x k h rfl rfl hX]
    refine ⟨rfl, rfl, ?_, ?_, ?_, ?_⟩
    · unfold ckf; rw [if_neg hX]; rfl
    · unfold cnf; rw [if_neg hX]; rfl
    · unfold cef; rw [if_neg hX]; rfl
    · show (5 : Int) ≠ -1; decide
def cpK (f g : Int → Int) (k : Int) : Int → Int := fun j => if 0 ≤ j ∧ j < k then f j else g j
theorem cpK_0 (f g : Int → Int) : cpK f g 0 = g := by funext j; unfold cpK; rw [if_neg (by omega)]
theorem cpK_s (f g : Int → Int) {k : Int} (h : 0 ≤ k) : upZ (cpK f g k) k (f k) = cpK f g (k + 1) := by
  funext j
  by_cases c : j = k
  · subst c; rw [upZ_s]; unfold cpK; rw [if_pos (by omega)]
  · rw [upZ_n _ _ _ c]; unfold cpK
    by_cases c2 : 0 ≤ j ∧ j < k
    · rw [if_pos c2, if_pos (by omega)]
    · rw [if_neg c2, if_neg (by omega)]
theorem rowF_out {w : Wt} {op tn pl kd nb : Int → Int} {en j : Int} (h : ¬ (0 ≤ j ∧ j < 50)) : rowF w op tn pl en kd nb j = 0 := by
  unfold rowF
  by_cases c : j < 0
  · rw [if_pos c]
  · rw [if_neg c]; repeat (first | rw [if_neg (by omega)] | rw [if_pos (by omega)])
theorem row_back {w w' : Wt} {op tn pl kd nb op' tn' pl' kd' nb' g : Int → Int} {en en' : Int} : cpK (cpK (rowF w op tn pl en kd nb) g 50) (rowF w' op' tn' pl' en' kd' nb') 50 = rowF w op tn pl en kd nb := by
  funext j
  unfold cpK
  by_cases c : 0 ≤ j ∧ j < 50
  · rw [if_pos c, if_pos c]
  · rw [if_neg c, rowF_out c, rowF_out c]
