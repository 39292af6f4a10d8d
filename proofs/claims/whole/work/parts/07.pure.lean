-- pure rows of the model
theorem chW_tk (n x k j : Int) (w : Wt) : chW n x k (tickW j w) = tickW j (chW n x k w) := by
  unfold chW
  by_cases h : x < 0
  · rw [if_pos h, if_pos h]; rfl
  · rw [if_neg h, if_neg h]
    by_cases h2 : x < n
    · rw [if_pos h2, if_pos h2]; rfl
    · rw [if_neg h2, if_neg h2]; rfl
theorem mvW_tk (n g x j : Int) (w : Wt) : mvW n g x (tickW j w) = tickW j (mvW n g x w) := by unfold mvW; rw [chW_tk, chW_tk]
theorem canW_tk (n L a g j : Int) (w : Wt) : canW n L a g (tickW j w) = canW n L a g w := rfl
theorem flW_tk (n L a g j : Int) : ∀ (m : Nat) (w : Wt), flW n L a g m (tickW j w) = ((flW n L a g m w).1, tickW j (flW n L a g m w).2)
  | 0, _ => rfl
  | m + 1, w => by
    by_cases h : canW n L a g w = true
    · rw [flW_t m h, flW_t m (by rw [canW_tk]; exact h), mvW_tk, flW_tk n L a g j m]
    · have h2 : canW n L a g w = false := by cases q : canW n L a g w; rfl; exact absurd q h
      rw [flW_f _ h2, flW_f _ (by rw [canW_tk]; exact h2)]
theorem flW_ge (n L a g : Int) : ∀ (m : Nat) (w : Wt), 0 ≤ (flW n L a g m w).1 ∧ (flW n L a g m w).1 ≤ m
  | 0, _ => ⟨Int.le_refl 0, Int.le_refl 0⟩
  | m + 1, w => by
    by_cases h : canW n L a g w = true
    · rw [flW_t m h]
      have ih := flW_ge n L a g m (mvW n g 1 w)
      constructor
      · show 0 ≤ (flW n L a g m (mvW n g 1 w)).1 + 1; omega
      · show (flW n L a g m (mvW n g 1 w)).1 + 1 ≤ ((m + 1 : Nat) : Int); omega
    · have h2 : canW n L a g w = false := by cases q : canW n L a g w; rfl; exact absurd q h
      rw [flW_f _ h2]
      exact ⟨Int.le_refl 0, by show (0 : Int) ≤ ((m + 1 : Nat) : Int); omega⟩
/-- all of the first a flow: the rest goes on -/
theorem flW_add (n L a g : Int) (k : Nat) : ∀ (m : Nat) (w : Wt), (flW n L a g m w).1 = (m : Int) → flW n L a g (m + k) w = ((m : Int) + (flW n L a g k (flW n L a g m w).2).1, (flW n L a g k (flW n L a g m w).2).2)
  | 0, w, _ => by
    rw [Nat.zero_add]
    show flW n L a g k w = ((0 : Int) + (flW n L a g k w).1, (flW n L a g k w).2)
    rw [Int.zero_add]
  | m + 1, w, h => by
    by_cases hc : canW n L a g w = true
    · rw [flW_t m hc] at h ⊢
      have e : m + 1 + k = (m + k) + 1 := by omega
      have h' : (flW n L a g m (mvW n g 1 w)).1 = (m : Int) := by
        have h1 : (flW n L a g m (mvW n g 1 w)).1 + 1 = ((m + 1 : Nat) : Int) := h
        omega
      rw [e, flW_t (m + k) hc, flW_add n L a g k m _ h']
      refine Prod.ext ?_ rfl
      show (m : Int) + (flW n L a g k (flW n L a g m (mvW n g 1 w)).2).1 + 1 = ((m + 1 : Nat) : Int) + (flW n L a g k (flW n L a g m (mvW n g 1 w)).2).1
      omega
    · have h2 : canW n L a g w = false := by cases q : canW n L a g w; rfl; exact absurd q hc
      rw [flW_f _ h2] at h
      have h1 : (0 : Int) = ((m + 1 : Nat) : Int) := h
      omega
/-- it has stopped: more units change nothing -/
theorem flW_stop (n L a g : Int) (k : Nat) : ∀ (m : Nat) (w : Wt), (flW n L a g m w).1 < (m : Int) → flW n L a g (m + k) w = flW n L a g m w
  | 0, w, h => by
    have h1 : (0 : Int) < ((0 : Nat) : Int) := h
    omega
  | m + 1, w, h => by
    by_cases hc : canW n L a g w = true
    · rw [flW_t m hc] at h ⊢
      have h' : (flW n L a g m (mvW n g 1 w)).1 < (m : Int) := by
        have h1 : (flW n L a g m (mvW n g 1 w)).1 + 1 < ((m + 1 : Nat) : Int) := h
        omega
      have e : m + 1 + k = (m + k) + 1 := by omega
      rw [e, flW_t (m + k) hc, flW_stop n L a g k m _ h']
    · have h2 : canW n L a g w = false := by cases q : canW n L a g w; rfl; exact absurd q hc
      rw [flW_f _ h2, flW_f _ h2]
theorem tickW_0 (w : Wt) : tickW 0 w = w := by
  show (w.1, w.2.1, w.2.2.1 + 0, w.2.2.2) = w
  rw [Int.add_zero]
theorem tickW_2 (j k : Int) (w : Wt) : tickW j (tickW k w) = tickW (k + j) w := by
  show (w.1, w.2.1, w.2.2.1 + k + j, w.2.2.2) = (w.1, w.2.1, w.2.2.1 + (k + j), w.2.2.2)
  rw [Int.add_assoc]
theorem rsW_rn (n L a g : Int) : ∀ (f k : Nat) (w : Wt), k ≤ f → rsW n L a g f (k : Int) w = rnW n L a g k w
  | f, 0, w, _ => by
    rw [rsW_z f (by omega)]
    show w = tickW ((0 + (if (0 : Int) < ((0 : Nat) : Int) then 20 else 19)) / 20) w
    rw [if_neg (by omega)]
    exact (tickW_0 w).symm
  | 0, k + 1, _, h => absurd h (by omega)
  | f + 1, k + 1, w, h => by
    have hm : mn20 ((k + 1 : Nat) : Int) = ((min (k + 1) 20 : Nat) : Int) := by
      unfold mn20
      by_cases q : (20 : Int) < ((k + 1 : Nat) : Int)
      · rw [if_pos q]; omega
      · rw [if_neg q]; omega
    have hmt : (mn20 ((k + 1 : Nat) : Int)).toNat = min (k + 1) 20 := by rw [hm]; exact Int.toNat_natCast _
    have g1 := flW_ge n L a g (min (k + 1) 20) w
    by_cases q : (flW n L a g (min (k + 1) 20) w).1 < ((min (k + 1) 20 : Nat) : Int)
    · rw [rsW_a f (by omega) (by rw [hmt, hm]; exact q), hmt]
      obtain ⟨r, hr⟩ : ∃ r, k + 1 = min (k + 1) 20 + r := ⟨k + 1 - min (k + 1) 20, by omega⟩
      have e := flW_stop n L a g r (min (k + 1) 20) w q
      rw [← hr] at e
      unfold rnW
      rw [e, if_pos (by omega)]
      have e1 : ((flW n L a g (min (k + 1) 20) w).1 + 20) / 20 = 1 := by omega
      rw [e1]
    · rw [rsW_b f (by omega) (by rw [hmt, hm]; exact q), hmt]
      have e0 : (flW n L a g (min (k + 1) 20) w).1 = ((min (k + 1) 20 : Nat) : Int) := by omega
      obtain ⟨r, hr⟩ : ∃ r, k + 1 = min (k + 1) 20 + r := ⟨k + 1 - min (k + 1) 20, by omega⟩
      have e := flW_add n L a g r (min (k + 1) 20) w e0
      rw [← hr] at e
      have hl : ((k + 1 : Nat) : Int) - (flW n L a g (min (k + 1) 20) w).1 = (r : Int) := by omega
      rw [hl, rsW_rn n L a g f r _ (by omega)]
      unfold rnW
      rw [flW_tk, e]
      show tickW _ (tickW 1 _) = _
      rw [tickW_2]
      have g2 := flW_ge n L a g r (flW n L a g (min (k + 1) 20) w).2
      by_cases q2 : (flW n L a g r (flW n L a g (min (k + 1) 20) w).2).1 < (r : Int)
      · rw [if_pos q2, if_pos (by show ((min (k + 1) 20 : Nat) : Int) + (flW n L a g r (flW n L a g (min (k + 1) 20) w).2).1 < ((k + 1 : Nat) : Int); omega)]
        congr 1
        show 1 + ((flW n L a g r (flW n L a g (min (k + 1) 20) w).2).1 + 20) / 20 = (((min (k + 1) 20 : Nat) : Int) + (flW n L a g r (flW n L a g (min (k + 1) 20) w).2).1 + 20) / 20
        omega
      · rw [if_neg q2, if_neg (by show ¬ ((min (k + 1) 20 : Nat) : Int) + (flW n L a g r (flW n L a g (min (k + 1) 20) w).2).1 < ((k + 1 : Nat) : Int); omega)]
        congr 1
        show 1 + ((flW n L a g r (flW n L a g (min (k + 1) 20) w).2).1 + 19) / 20 = (((min (k + 1) 20 : Nat) : Int) + (flW n L a g r (flW n L a g (min (k + 1) 20) w).2).1 + 19) / 20
        omega
theorem chW_keep (n x k j : Int) (w : Wt) (h : j ≠ x) : (chW n x k w).2.2.2 j = w.2.2.2 j := by
  unfold chW
  by_cases h1 : x < 0
  · rw [if_pos h1]
  · rw [if_neg h1]
    by_cases h2 : x < n
    · rw [if_pos h2]; exact upZ_n _ _ _ h
    · rw [if_neg h2]
theorem mvW_keep (n g k j : Int) (w : Wt) (h : j ≠ g) (h2 : j ≠ g - 1) : (mvW n g k w).2.2.2 j = w.2.2.2 j := by
  unfold mvW; rw [chW_keep _ _ _ _ _ h2, chW_keep _ _ _ _ _ h]
theorem flW_keep (n L a g j : Int) (h : j ≠ g) (h2 : j ≠ g - 1) : ∀ (m : Nat) (w : Wt), (flW n L a g m w).2.2.2.2 j = w.2.2.2 j
  | 0, _ => rfl
  | m + 1, w => by
    by_cases hc : canW n L a g w = true
    · rw [flW_t m hc]
      show (flW n L a g m (mvW n g 1 w)).2.2.2.2 j = _
      rw [flW_keep n L a g j h h2 m, mvW_keep _ _ _ _ _ h h2]
    · have h3 : canW n L a g w = false := by cases q : canW n L a g w; rfl; exact absurd q hc
      rw [flW_f _ h3]
theorem rnW_keep (n L a g j : Int) (h : j ≠ g) (h2 : j ≠ g - 1) (m : Nat) (w : Wt) : (rnW n L a g m w).2.2.2 j = w.2.2.2 j := flW_keep n L a g j h h2 m w
theorem itW_keep {f : Wt → Wt} (j : Int) (hf : ∀ w, (f w).2.2.2 j = w.2.2.2 j) (c t : Int) : ∀ (m : Nat) (w : Wt), (itW f c t m w).2.2.2 j = w.2.2.2 j
  | 0, _ => rfl
  | m + 1, w => by
    by_cases h : t < w.2.2.2 c
    · rw [itW_t m h, itW_keep j hf c t m, hf]
    · rw [itW_f _ h]
theorem loM_keepN (n L a j : Int) : ∀ (b : Nat) (t : Int) (w : Wt), (b : Int) < j → (loM n L a b t w).2.2.2 j = w.2.2.2 j
  | 0, t, w, h => by
    unfold loM
    refine itW_keep j (fun v => ?_) _ _ _ _
    rw [loS_a (fun q => by omega), rnW_keep _ _ _ _ _ (by omega) (by omega)]
  | b + 1, t, w, h => by
    unfold loM
    refine itW_keep j (fun v => ?_) _ _ _ _
    by_cases q : 0 < ((b + 1 : Nat) : Int) ∧ L ≤ v.2.2.2 (((b + 1 : Nat) : Int) - 1)
    · rw [loS_b q, rnW_keep _ _ _ _ _ (by omega) (by omega), loM_keepN n L a j b 0 v (by omega)]
    · rw [loS_a q, rnW_keep _ _ _ _ _ (by omega) (by omega)]
theorem loM_keep {n L a : Int} (b j t : Int) (w : Wt) (h0 : 0 ≤ b) (h : b < j) : (loM n L a b.toNat t w).2.2.2 j = w.2.2.2 j := loM_keepN n L a j b.toNat t w (by omega)
