theorem opB_up {op : Int → Int} (h : opB op) {g x : Int} (hx : x = 0 ∨ x = 1) : opB (upZ op g x) := by
  intro z
  by_cases q : z = g
  · subst q; rw [upZ_s]; exact hx
  · rw [upZ_n _ _ _ q]; exact h z
theorem tnB_up {tn : Int → Int} (h : tnB tn) {g x : Int} (hx : 0 ≤ x ∧ x ≤ 5) : tnB (upZ tn g x) := by
  intro z
  by_cases q : z = g
  · subst q; rw [upZ_s]; exact hx
  · rw [upZ_n _ _ _ q]; exact h z
theorem lnB_up {ln : Int → Int} (h : lnB ln) {g x : Int} (hx : 0 ≤ x ∧ x ≤ 60) : lnB (upZ ln g x) := by
  intro z
  by_cases q : z = g
  · subst q; rw [upZ_s]; exact hx
  · rw [upZ_n _ _ _ q]; exact h z
theorem zr_up {op : Int → Int} {n g x : Int} (h : ∀ z, n < z → op z = 0) (hg : g ≤ n) : ∀ z, n < z → upZ op g x z = 0 := by
  intro z hz; rw [upZ_n _ _ _ (by omega)]; exact h z hz
theorem zrZ_7 {op : Int → Int} {n : Int} (hn : 1 ≤ n ∧ n ≤ 6) (h : ∀ z, n < z → op z = 0) : zrZ op (n + 1) = zrZ op 7 := by
  funext z
  show (if 0 ≤ z ∧ z < n + 1 then 0 else op z) = (if 0 ≤ z ∧ z < 7 then 0 else op z)
  by_cases q : 0 ≤ z ∧ z < n + 1
  · rw [if_pos q, if_pos (by omega)]
  · by_cases r : 0 ≤ z ∧ z < 7
    · rw [if_neg q, if_pos r, h z (by omega)]
    · rw [if_neg q, if_neg r]
theorem zrZ_opB {op : Int → Int} (h : opB op) (k : Int) : opB (zrZ op k) := by
  intro z
  show (if 0 ≤ z ∧ z < k then 0 else op z) = 0 ∨ (if 0 ≤ z ∧ z < k then 0 else op z) = 1
  split
  · exact Or.inl rfl
  · exact h z
theorem zrZ_tnB {tn : Int → Int} (h : tnB tn) (k : Int) : tnB (zrZ tn k) := by
  intro z
  show 0 ≤ (if 0 ≤ z ∧ z < k then 0 else tn z) ∧ (if 0 ≤ z ∧ z < k then 0 else tn z) ≤ 5
  split
  · omega
  · exact h z
theorem zrZ_zr {op : Int → Int} {n : Int} (h : ∀ z, n < z → op z = 0) (k : Int) : ∀ z, n < z → zrZ op k z = 0 := by
  intro z hz
  show (if 0 ≤ z ∧ z < k then 0 else op z) = 0
  split
  · rfl
  · exact h z hz
theorem isO_zr {op : Int → Int} {g : Int} (hg : g < 7) : isO (zrZ op 7) g = false := by
  cases h : isO (zrZ op 7) g with
  | false => rfl
  | true =>
    have h1 := isO_iff.mp h
    have h2 : (if 0 ≤ g ∧ g < 7 then (0 : Int) else op g) = 1 := h1.2.2
    rw [if_pos ⟨h1.1, hg⟩] at h2
    exact absurd h2 (by decide)
/-- what a taking reports -/
def qI (n : Int) (q : Int × Int × Int) : Prop := q.2.2 = -1 ∨ (0 ≤ q.1 ∧ q.1 ≤ n ∧ ((q.2.2 = 5 ∧ 1 ≤ q.1 ∧ q.2.1 = flX n q.1) ∨ (q.2.1 = 0 ∧ 1 ≤ q.2.2 ∧ q.2.2 ≤ 4)))
theorem brM_I {n L a cnt b up : Int} {ln dr : Int → Int} (hn : 1 ≤ n ∧ n ≤ 6) (hL : 5 ≤ L ∧ L ≤ 40) (ha : 1 ≤ a ∧ a ≤ 50) (hup : up = 0 ∨ up = 1) : ∀ (k : Nat) (pl : Int → Int) (w : Wt), plI n pl → WI n L a w →
    plI n (brM n L a cnt ln dr b up k pl w).1 ∧ WI n L a (brM n L a cnt ln dr b up k pl w).2.1 ∧ qI n (brM n L a cnt ln dr b up k pl w).2.2
  | 0, pl, w, hp, hw => ⟨hp, hw, Or.inl rfl⟩
  | k + 1, pl, w, hp, hw => by
    have hpb := hp b
    by_cases he : pl b = endA n up
    · rw [brM_e _ he]; exact ⟨hp, hw, Or.inl rfl⟩
    · have he1 : (up = 0 ∧ endA n up = 0) ∨ (up = 1 ∧ endA n up = n + 1) := by unfold endA; split <;> omega
      have hpn : (up = 0 ∧ plN pl b up = pl b - 1) ∨ (up = 1 ∧ plN pl b up = pl b + 1) := by unfold plN; split <;> omega
      have hgt : gtA (pl b) (plN pl b up) ≤ pl b ∧ gtA (pl b) (plN pl b up) ≤ plN pl b up ∧ (gtA (pl b) (plN pl b up) = pl b ∨ gtA (pl b) (plN pl b up) = plN pl b up) := by unfold gtA; split <;> omega
      have hg : 0 ≤ gtA (pl b) (plN pl b up) ∧ gtA (pl b) (plN pl b up) ≤ n := by omega
      have hw2 := lvX_WI hn hL ha hg hw
      by_cases hX : (lvX n L a (gtA (pl b) (plN pl b up)) w).1 = true
      · have ob := obI_b n a (lvX n L a (gtA (pl b) (plN pl b up)) w).2 cnt ln dr pl (plN pl b up) b
        by_cases ho : obI n a (lvX n L a (gtA (pl b) (plN pl b up)) w).2 cnt ln dr pl (plN pl b up) b = 0
        · rw [brM_s k he rfl hX ho]
          exact brM_I hn hL ha hup k _ _ (plI_up hp (by omega)) hw2
        · rw [brM_o k he rfl hX ho]
          exact ⟨hp, hw2, Or.inr ⟨hg.1, hg.2, Or.inr ⟨rfl, by show 1 ≤ obI n a _ cnt ln dr pl _ b; omega, by show obI n a _ cnt ln dr pl _ b ≤ 4; omega⟩⟩⟩
      · rw [brM_x k he rfl rfl hX]
        refine ⟨hp, hw2, Or.inr ⟨hg.1, hg.2, Or.inl ⟨rfl, ?_, rfl⟩⟩⟩
        show 1 ≤ gtA (pl b) (plN pl b up)
        by_cases h0 : gtA (pl b) (plN pl b up) = 0
        · exact absurd (lvX_0 (L := L) (a := a) (w := w) hn h0) hX
        · omega
theorem rpF_RI {n : Int} {rp : Rt} {q : Int × Int × Int} (hn : 1 ≤ n ∧ n ≤ 6) (hr : RI rp) (hq : qI n q) : RI (rpF rp q) := by
  obtain ⟨r1, r2, r3, r4⟩ := hr
  unfold rpF
  by_cases h : q.2.2 = -1
  · rw [if_pos h]; exact ⟨r1, r2, r3, by show (-1 : Int) ≤ -1 ∧ (-1 : Int) ≤ 5; decide⟩
  · rw [if_neg h]
    rcases hq with hq | ⟨h0, h1, h2⟩
    · exact absurd hq h
    · have hf : 0 ≤ q.2.1 ∧ q.2.1 ≤ 8 := by
        rcases h2 with h2 | h2
        · have := h2.2.2; unfold flX at this; split at this <;> omega
        · omega
      exact ⟨by show -1 ≤ q.1 ∧ q.1 ≤ 7; omega, by show -2 ≤ q.1 - 1 ∧ q.1 - 1 ≤ 7; omega, hf, by show -1 ≤ q.2.2 ∧ q.2.2 ≤ 5; omega⟩
theorem fkd_v (f : Int → Int) : ∀ (d : Nat) (j : Int), 0 ≤ j → j ≤ (d : Int) + 1 → fkd d 0 f j = if j ≤ (d : Int) then 7 else 5
  | 0, j, h0, h1 => by
    rw [fkd_z rfl]
    by_cases q : j = 0
    · subst q; rfl
    · rw [if_neg (by omega), show j = 1 by omega]; rfl
  | d + 1, j, h0, h1 => by
    rw [fkd_s (by omega)]
    show (if j = 0 then 7 else if 1 ≤ j ∧ j ≤ 0 + (d : Int) + 2 then fkd d 0 f (j - 1) else fkd d 0 f j) = _
    by_cases q : j = 0
    · rw [if_pos q, if_pos (by omega)]
    · rw [if_neg q, if_pos (by omega), fkd_v f d (j - 1) (by omega) (by omega)]
      by_cases r : j ≤ ((d + 1 : Nat) : Int)
      · rw [if_pos r, if_pos (by omega)]
      · rw [if_neg r, if_neg (by omega)]
theorem fnb_v (f : Int → Int) : ∀ (d : Nat) (c j : Int), 0 ≤ j → j ≤ (d : Int) + 1 → fnb d 0 c f j = if j ≤ (d : Int) then c + j else -1
  | 0, c, j, h0, h1 => by
    rw [fnb_z rfl]
    by_cases q : j = 0
    · subst q; rw [if_pos (by decide), Int.add_zero]; rfl
    · rw [if_neg (by omega), show j = 1 by omega]; rfl
  | d + 1, c, j, h0, h1 => by
    rw [fnb_s (by omega)]
    show (if j = 0 then c else if 1 ≤ j ∧ j ≤ 0 + (d : Int) + 2 then fnb d 0 (c + 1) f (j - 1) else fnb d 0 (c + 1) f j) = _
    by_cases q : j = 0
    · rw [if_pos q, if_pos (by omega)]; omega
    · rw [if_neg q, if_pos (by omega), fnb_v f d (c + 1) (j - 1) (by omega) (by omega)]
      by_cases r : j ≤ ((d + 1 : Nat) : Int)
      · rw [if_pos r, if_pos (by omega)]; omega
      · rw [if_neg r, if_neg (by omega)]
theorem shZ_0 (f : Int → Int) (e v : Int) : shZ f e v 0 = v := rfl
theorem shZ_p (f : Int → Int) (e v : Int) {j : Int} (h : 1 ≤ j ∧ j ≤ e) : shZ f e v j = f (j - 1) := by
  show (if j = 0 then v else if 1 ≤ j ∧ j ≤ e then f (j - 1) else f j) = _
  rw [if_neg (by omega), if_pos h]
/-- the two reports agree -/
def rpR (n en : Int) (kd nb : Int → Int) (rp : Rt) : Prop := RI rp ∧ en = rpS rp ∧ (0 ≤ en ∧ en ≤ 8) ∧ ∀ i, 0 ≤ i → i < en → kd i = rpK rp i ∧ nb i = rpN rp i
theorem rpR_tk {n : Int} {rp : Rt} {q : Int × Int × Int} {kd nb : Int → Int} (hn : 1 ≤ n ∧ n ≤ 6) (hr : RI rp) (hq : qI n q) : rpR n (ten n q) (tkd n q kd) (tnb n q nb) (rpF rp q) := by
  refine ⟨rpF_RI hn hr hq, ?_, ?_, ?_⟩
  · unfold ten rpF rpS
    by_cases h : q.2.2 = -1
    · rw [if_pos h, if_pos h]; rfl
    · rw [if_neg h, if_neg h]
      show _ = if q.2.2 = -1 then 0 else q.2.1 + 2
      rw [if_neg h]
      rcases hq with hq | ⟨h0, h1, ⟨h2, h3, h4⟩ | ⟨h2, h3, h4⟩⟩
      · exact absurd hq h
      · rw [if_pos h2, h4]; unfold lne flX
        by_cases g : q.1 = n
        · rw [if_pos g, if_pos g]; omega
        · rw [if_neg g, if_neg g]; omega
      · rw [if_neg (by omega), h2]; rfl
  · unfold ten
    by_cases h : q.2.2 = -1
    · rw [if_pos h]; omega
    · rw [if_neg h]
      rcases hq with hq | ⟨h0, h1, ⟨h2, h3, h4⟩ | ⟨h2, h3, h4⟩⟩
      · exact absurd hq h
      · rw [if_pos h2]; have := lne_b hn (show 1 ≤ q.1 ∧ q.1 ≤ n by omega); omega
      · rw [if_neg (by omega)]; omega
  · intro i i0 i1
    unfold ten at i1
    by_cases h : q.2.2 = -1
    · rw [if_pos h] at i1; exact absurd i1 (by omega)
    · rw [if_neg h] at i1
      have eF : rpF rp q = (q.1, q.1 - 1, q.2.1, q.2.2) := by unfold rpF; rw [if_neg h]
      have eS : rpS (q.1, q.1 - 1, q.2.1, q.2.2) = q.2.1 + 2 := by
        show (if q.2.2 = -1 then 0 else q.2.1 + 2) = _; rw [if_neg h]
      have eK : rpK (q.1, q.1 - 1, q.2.1, q.2.2) i = if i < 0 ∨ q.2.1 + 2 ≤ i then -1 else if i = 0 then 6 else if i ≤ q.2.1 then 7 else q.2.2 := by
        unfold rpK; rw [eS]
      have eN : rpN (q.1, q.1 - 1, q.2.1, q.2.2) i = if rpK (q.1, q.1 - 1, q.2.1, q.2.2) i = 6 then q.1 else if rpK (q.1, q.1 - 1, q.2.1, q.2.2) i = 7 then q.1 - 1 + i - 1 else -1 := rfl
      rw [eF]
      rcases hq with hq | ⟨h0, h1, ⟨h2, h3, h4⟩ | ⟨h2, h3, h4⟩⟩
      · exact absurd hq h
      · rw [if_pos h2] at i1
        have eT : tkd n q kd = shZ (lkd n q.1 0 kd) (lne n q.1 0) 6 := by unfold tkd; rw [if_neg h, if_pos h2]
        have eB : tnb n q nb = shZ (lnb n q.1 0 nb) (lne n q.1 0) q.1 := by unfold tnb; rw [if_neg h, if_pos h2]
        rw [eT, eB]
        by_cases g : q.1 = n
        · have e1 : lne n q.1 0 = 1 := by unfold lne; rw [if_pos g]; rfl
          have e2 : q.2.1 = 0 := by rw [h4]; unfold flX; rw [if_pos g]
          rw [e1] at i1 ⊢
          by_cases z : i = 0
          · subst z
            have k1 : rpK (q.1, q.1 - 1, q.2.1, q.2.2) 0 = 6 := by rw [eK, if_neg (by omega), if_pos rfl]
            rw [eN, k1, if_pos rfl, shZ_0, shZ_0]; exact ⟨rfl, rfl⟩
          · have e3 : i = 1 := by omega
            subst e3
            have k1 : rpK (q.1, q.1 - 1, q.2.1, q.2.2) 1 = 5 := by rw [eK, if_neg (by omega), if_neg (by omega), if_neg (by omega), h2]
            rw [eN, k1, if_neg (by decide), if_neg (by decide), shZ_p _ _ _ (by omega), shZ_p _ _ _ (by omega)]
            unfold lkd lnb
            rw [if_pos g, if_pos g]; exact ⟨rfl, rfl⟩
        · have e1 : lne n q.1 0 = n - q.1 + 2 := by unfold lne; rw [if_neg g]; omega
          have e2 : q.2.1 = n - q.1 + 1 := by rw [h4]; unfold flX; rw [if_neg g]
          rw [e1] at i1 ⊢
          by_cases z : i = 0
          · subst z
            have k1 : rpK (q.1, q.1 - 1, q.2.1, q.2.2) 0 = 6 := by rw [eK, if_neg (by omega), if_pos rfl]
            rw [eN, k1, if_pos rfl, shZ_0, shZ_0]; exact ⟨rfl, rfl⟩
          · rw [shZ_p _ _ _ (by omega), shZ_p _ _ _ (by omega)]
            have e5 : lkd n q.1 0 kd = fkd (n - q.1).toNat 0 kd := by unfold lkd; rw [if_neg g]
            have e6 : lnb n q.1 0 nb = fnb (n - q.1).toNat 0 (q.1 - 1) nb := by unfold lnb; rw [if_neg g]
            rw [e5, e6, fkd_v _ _ _ (by omega) (by omega), fnb_v _ _ _ _ (by omega) (by omega)]
            by_cases y : i ≤ n - q.1 + 1
            · have k1 : rpK (q.1, q.1 - 1, q.2.1, q.2.2) i = 7 := by rw [eK, if_neg (by omega), if_neg z, if_pos (by omega)]
              have c1 : i - 1 ≤ ((n - q.1).toNat : Int) := by omega
              rw [eN, k1, if_pos c1, if_pos c1, if_neg (by decide), if_pos rfl]; exact ⟨rfl, by omega⟩
            · have k1 : rpK (q.1, q.1 - 1, q.2.1, q.2.2) i = 5 := by rw [eK, if_neg (by omega), if_neg z, if_neg (by omega), h2]
              have c1 : ¬ i - 1 ≤ ((n - q.1).toNat : Int) := by omega
              rw [eN, k1, if_neg c1, if_neg c1, if_neg (by decide), if_neg (by decide)]; exact ⟨rfl, rfl⟩
      · rw [if_neg (by omega)] at i1
        have eT : tkd n q kd = shZ (shZ kd 0 q.2.2) 1 6 := by unfold tkd; rw [if_neg h, if_neg (by omega)]
        have eB : tnb n q nb = shZ (shZ nb 0 (-1)) 1 q.1 := by unfold tnb; rw [if_neg h, if_neg (by omega)]
        rw [eT, eB]
        by_cases z : i = 0
        · subst z
          have k1 : rpK (q.1, q.1 - 1, q.2.1, q.2.2) 0 = 6 := by rw [eK, if_neg (by omega), if_pos rfl]
          rw [eN, k1, if_pos rfl, shZ_0, shZ_0]; exact ⟨rfl, rfl⟩
        · have e3 : i = 1 := by omega
          subst e3
          have k1 : rpK (q.1, q.1 - 1, q.2.1, q.2.2) 1 = q.2.2 := by rw [eK, if_neg (by omega), if_neg (by omega), if_neg (by omega)]
          rw [eN, k1, if_neg (show ¬ q.2.2 = 6 by omega), if_neg (show ¬ q.2.2 = 7 by omega)]
          exact ⟨rfl, rfl⟩
theorem rpS_b {rp : Rt} (h : RI rp) : 0 ≤ rpS rp ∧ rpS rp ≤ 10 := by
  obtain ⟨h1, h2, h3, h4⟩ := h
  unfold rpS; split <;> omega
theorem rpS_q {n : Int} {rp : Rt} {q : Int × Int × Int} (hn : 1 ≤ n ∧ n ≤ 6) (hr : RI rp) (hq : qI n q) : (q.2.2 = -1 → rpS (rpF rp q) = 0) ∧ (q.2.2 ≠ -1 → 0 < rpS (rpF rp q)) := by
  have hR := (rpF_RI hn hr hq).2.2.1
  refine ⟨fun h => ?_, fun h => ?_⟩
  · unfold rpF; rw [if_pos h]; rfl
  · have eF : rpF rp q = (q.1, q.1 - 1, q.2.1, q.2.2) := by unfold rpF; rw [if_neg h]
    rw [eF] at hR ⊢
    show 0 < (if q.2.2 = -1 then 0 else q.2.1 + 2)
    rw [if_neg h]
    have : 0 ≤ q.2.1 := hR.1
    omega
