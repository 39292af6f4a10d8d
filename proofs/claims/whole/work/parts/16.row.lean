-- the reference's one row
def rowF (w : Wt) (op tn pl : Int → Int) (en : Int) (kd nb : Int → Int) : Int → Int := fun j => if j < 0 then 0 else if j = 0 then w.1 else if j = 1 then w.2.1 else if j = 2 then w.2.2.1 else if j < 9 then w.2.2.2 (j - 3) else if j < 16 then op (j - 9) else if j < 23 then tn (j - 16) else if j < 33 then pl (j - 23) else if j = 33 then en else if j < 42 then kd (j - 34) else if j < 50 then nb (j - 42) else 0
theorem li_div {p : Program} {l : Launch} {e : Env} {R : Room} {s : State} {m : MethodId} {args : Array Value} {below : List Frame} {meth : Method} {c : Code} {H : Heap} {locs : List Loc} {cells slots : Nat} {Q : State → Prop} {cc : ByteArray} {pc : Nat} {ls : Array Slot} {rest : List Value} {a b : Int} (hx : p.tables.exec = Jvm.exec) (hb : c.code = cc) (hdg : decode cc pc = .ok (.idiv, 1)) (ha0 : 0 ≤ a) (hb0 : 0 < b) (ha : ib a) (hb2 : ib b) (k : W p l e R s m args below meth c H locs cells slots Q (F0 m (pc + 1) ls (.int (iI (a / b)) :: rest))) : W p l e R s m args below meth c H locs cells slots Q (F0 m pc ls (.int (iI b) :: .int (iI a) :: rest)) :=
  lv_idiv hx hb hdg (fun h => by have := (iI_eq hb2 ib_0).mp h; omega) (by rw [iI_div ha hb2, Int.tdiv_eq_ediv_of_nonneg ha0]; exact k)
section RW
variable {w w' : Wt} {op tn pl kd nb op' tn' pl' kd' nb' : Int → Int} {en en' i j c v : Int}
theorem rowF_ext (hW : j = 0 → w.1 = w'.1) (hQ : j = 1 → w.2.1 = w'.2.1) (hT : j = 2 → w.2.2.1 = w'.2.2.1) (hu : 3 ≤ j → j < 9 → w.2.2.2 (j - 3) = w'.2.2.2 (j - 3)) (ho : 9 ≤ j → j < 16 → op (j - 9) = op' (j - 9)) (ht : 16 ≤ j → j < 23 → tn (j - 16) = tn' (j - 16)) (hp : 23 ≤ j → j < 33 → pl (j - 23) = pl' (j - 23)) (he : j = 33 → en = en') (hk : 34 ≤ j → j < 42 → kd (j - 34) = kd' (j - 34)) (hb : 42 ≤ j → j < 50 → nb (j - 42) = nb' (j - 42)) : rowF w op tn pl en kd nb j = rowF w' op' tn' pl' en' kd' nb' j := by
  unfold rowF
  by_cases q0 : j < 0
  · rw [if_pos q0, if_pos q0]
  · rw [if_neg q0, if_neg q0]
    by_cases q1 : j = 0
    · rw [if_pos q1, if_pos q1]; exact hW q1
    · rw [if_neg q1, if_neg q1]
      by_cases q2 : j = 1
      · rw [if_pos q2, if_pos q2]; exact hQ q2
      · rw [if_neg q2, if_neg q2]
        by_cases q3 : j = 2
        · rw [if_pos q3, if_pos q3]; exact hT q3
        · rw [if_neg q3, if_neg q3]
          by_cases q4 : j < 9
          · rw [if_pos q4, if_pos q4]; exact hu (by omega) q4
          · rw [if_neg q4, if_neg q4]
            by_cases q5 : j < 16
            · rw [if_pos q5, if_pos q5]; exact ho (by omega) q5
            · rw [if_neg q5, if_neg q5]
              by_cases q6 : j < 23
              · rw [if_pos q6, if_pos q6]; exact ht (by omega) q6
              · rw [if_neg q6, if_neg q6]
                by_cases q7 : j < 33
                · rw [if_pos q7, if_pos q7]; exact hp (by omega) q7
                · rw [if_neg q7, if_neg q7]
                  by_cases q8 : j = 33
                  · rw [if_pos q8, if_pos q8]; exact he q8
                  · rw [if_neg q8, if_neg q8]
                    by_cases q9 : j < 42
                    · rw [if_pos q9, if_pos q9]; exact hk (by omega) q9
                    · rw [if_neg q9, if_neg q9]
                      by_cases q10 : j < 50
                      · rw [if_pos q10, if_pos q10]; exact hb (by omega) q10
                      · rw [if_neg q10, if_neg q10]
theorem rd_W (h : i = 0) : rowF w op tn pl en kd nb i = w.1 := by subst h; unfold rowF; repeat (first | rw [if_neg (by omega)] | rw [if_pos (by omega)])
theorem wr_W (h : i = 0) : upZ (rowF w op tn pl en kd nb) i v = rowF (v, w.2.1, w.2.2.1, w.2.2.2) op tn pl en kd nb := by
  funext j
  by_cases hj : j = i
  · subst hj; rw [upZ_s]; exact (rd_W (w := (v, w.2.1, w.2.2.1, w.2.2.2)) h).symm
  · rw [upZ_n _ _ _ hj]; exact rowF_ext (fun q => absurd q (by omega)) (fun _ => rfl) (fun _ => rfl) (fun _ _ => rfl) (fun _ _ => rfl) (fun _ _ => rfl) (fun _ _ => rfl) (fun _ => rfl) (fun _ _ => rfl) (fun _ _ => rfl)
theorem rd_Q (h : i = 1) : rowF w op tn pl en kd nb i = w.2.1 := by subst h; unfold rowF; repeat (first | rw [if_neg (by omega)] | rw [if_pos (by omega)])
theorem wr_Q (h : i = 1) : upZ (rowF w op tn pl en kd nb) i v = rowF (w.1, v, w.2.2.1, w.2.2.2) op tn pl en kd nb := by
  funext j
  by_cases hj : j = i
  · subst hj; rw [upZ_s]; exact (rd_Q (w := (w.1, v, w.2.2.1, w.2.2.2)) h).symm
  · rw [upZ_n _ _ _ hj]; exact rowF_ext (fun _ => rfl) (fun q => absurd q (by omega)) (fun _ => rfl) (fun _ _ => rfl) (fun _ _ => rfl) (fun _ _ => rfl) (fun _ _ => rfl) (fun _ => rfl) (fun _ _ => rfl) (fun _ _ => rfl)
theorem rd_T (h : i = 2) : rowF w op tn pl en kd nb i = w.2.2.1 := by subst h; unfold rowF; repeat (first | rw [if_neg (by omega)] | rw [if_pos (by omega)])
theorem wr_T (h : i = 2) : upZ (rowF w op tn pl en kd nb) i v = rowF (w.1, w.2.1, v, w.2.2.2) op tn pl en kd nb := by
  funext j
  by_cases hj : j = i
  · subst hj; rw [upZ_s]; exact (rd_T (w := (w.1, w.2.1, v, w.2.2.2)) h).symm
  · rw [upZ_n _ _ _ hj]; exact rowF_ext (fun _ => rfl) (fun _ => rfl) (fun q => absurd q (by omega)) (fun _ _ => rfl) (fun _ _ => rfl) (fun _ _ => rfl) (fun _ _ => rfl) (fun _ => rfl) (fun _ _ => rfl) (fun _ _ => rfl)
theorem rd_u (h : i = 3 + c) (h0 : 0 ≤ c) (h1 : c < 6) : rowF w op tn pl en kd nb i = w.2.2.2 c := by
  subst h; unfold rowF; repeat (first | rw [if_neg (by omega)] | rw [if_pos (by omega)])
  rw [show 3 + c - 3 = c by omega]
theorem wr_u (h : i = 3 + c) (h0 : 0 ≤ c) (h1 : c < 6) : upZ (rowF w op tn pl en kd nb) i v = rowF (w.1, w.2.1, w.2.2.1, upZ w.2.2.2 c v) op tn pl en kd nb := by
  funext j
  by_cases hj : j = i
  · subst hj; rw [upZ_s]; exact ((rd_u h h0 h1).trans (upZ_s _ _ _)).symm
  · rw [upZ_n _ _ _ hj]; exact rowF_ext (fun _ => rfl) (fun _ => rfl) (fun _ => rfl) (fun _ _ => (upZ_n _ _ _ (by omega)).symm) (fun _ _ => rfl) (fun _ _ => rfl) (fun _ _ => rfl) (fun _ => rfl) (fun _ _ => rfl) (fun _ _ => rfl)
theorem rd_o (h : i = 9 + c) (h0 : 0 ≤ c) (h1 : c < 7) : rowF w op tn pl en kd nb i = op c := by
  subst h; unfold rowF; repeat (first | rw [if_neg (by omega)] | rw [if_pos (by omega)])
  rw [show 9 + c - 9 = c by omega]
theorem wr_o (h : i = 9 + c) (h0 : 0 ≤ c) (h1 : c < 7) : upZ (rowF w op tn pl en kd nb) i v = rowF w (upZ op c v) tn pl en kd nb := by
  funext j
  by_cases hj : j = i
  · subst hj; rw [upZ_s]; exact ((rd_o h h0 h1).trans (upZ_s _ _ _)).symm
  · rw [upZ_n _ _ _ hj]; exact rowF_ext (fun _ => rfl) (fun _ => rfl) (fun _ => rfl) (fun _ _ => rfl) (fun _ _ => (upZ_n _ _ _ (by omega)).symm) (fun _ _ => rfl) (fun _ _ => rfl) (fun _ => rfl) (fun _ _ => rfl) (fun _ _ => rfl)
theorem rd_t (h : i = 16 + c) (h0 : 0 ≤ c) (h1 : c < 7) : rowF w op tn pl en kd nb i = tn c := by
  subst h; unfold rowF; repeat (first | rw [if_neg (by omega)] | rw [if_pos (by omega)])
  rw [show 16 + c - 16 = c by omega]
theorem wr_t (h : i = 16 + c) (h0 : 0 ≤ c) (h1 : c < 7) : upZ (rowF w op tn pl en kd nb) i v = rowF w op (upZ tn c v) pl en kd nb := by
  funext j
  by_cases hj : j = i
  · subst hj; rw [upZ_s]; exact ((rd_t h h0 h1).trans (upZ_s _ _ _)).symm
  · rw [upZ_n _ _ _ hj]; exact rowF_ext (fun _ => rfl) (fun _ => rfl) (fun _ => rfl) (fun _ _ => rfl) (fun _ _ => rfl) (fun _ _ => (upZ_n _ _ _ (by omega)).symm) (fun _ _ => rfl) (fun _ => rfl) (fun _ _ => rfl) (fun _ _ => rfl)
theorem rd_p (h : i = 23 + c) (h0 : 0 ≤ c) (h1 : c < 10) : rowF w op tn pl en kd nb i = pl c := by
  subst h; unfold rowF; repeat (first | rw [if_neg (by omega)] | rw [if_pos (by omega)])
  rw [show 23 + c - 23 = c by omega]
theorem wr_p (h : i = 23 + c) (h0 : 0 ≤ c) (h1 : c < 10) : upZ (rowF w op tn pl en kd nb) i v = rowF w op tn (upZ pl c v) en kd nb := by
  funext j
  by_cases hj : j = i
  · subst hj; rw [upZ_s]; exact ((rd_p h h0 h1).trans (upZ_s _ _ _)).symm
  · rw [upZ_n _ _ _ hj]; exact rowF_ext (fun _ => rfl) (fun _ => rfl) (fun _ => rfl) (fun _ _ => rfl) (fun _ _ => rfl) (fun _ _ => rfl) (fun _ _ => (upZ_n _ _ _ (by omega)).symm) (fun _ => rfl) (fun _ _ => rfl) (fun _ _ => rfl)
theorem rd_e (h : i = 33) : rowF w op tn pl en kd nb i = en := by subst h; unfold rowF; repeat (first | rw [if_neg (by omega)] | rw [if_pos (by omega)])
theorem wr_e (h : i = 33) : upZ (rowF w op tn pl en kd nb) i v = rowF w op tn pl v kd nb := by
  funext j
  by_cases hj : j = i
  · subst hj; rw [upZ_s]; exact (rd_e h).symm
  · rw [upZ_n _ _ _ hj]; exact rowF_ext (fun _ => rfl) (fun _ => rfl) (fun _ => rfl) (fun _ _ => rfl) (fun _ _ => rfl) (fun _ _ => rfl) (fun _ _ => rfl) (fun q => absurd q (by omega)) (fun _ _ => rfl) (fun _ _ => rfl)
theorem rd_k (h : i = 34 + c) (h0 : 0 ≤ c) (h1 : c < 8) : rowF w op tn pl en kd nb i = kd c := by
  subst h; unfold rowF; repeat (first | rw [if_neg (by omega)] | rw [if_pos (by omega)])
  rw [show 34 + c - 34 = c by omega]
theorem wr_k (h : i = 34 + c) (h0 : 0 ≤ c) (h1 : c < 8) : upZ (rowF w op tn pl en kd nb) i v = rowF w op tn pl en (upZ kd c v) nb := by
  funext j
  by_cases hj : j = i
  · subst hj; rw [upZ_s]; exact ((rd_k h h0 h1).trans (upZ_s _ _ _)).symm
  · rw [upZ_n _ _ _ hj]; exact rowF_ext (fun _ => rfl) (fun _ => rfl) (fun _ => rfl) (fun _ _ => rfl) (fun _ _ => rfl) (fun _ _ => rfl) (fun _ _ => rfl) (fun _ => rfl) (fun _ _ => (upZ_n _ _ _ (by omega)).symm) (fun _ _ => rfl)
theorem rd_b (h : i = 42 + c) (h0 : 0 ≤ c) (h1 : c < 8) : rowF w op tn pl en kd nb i = nb c := by
  subst h; unfold rowF; repeat (first | rw [if_neg (by omega)] | rw [if_pos (by omega)])
  rw [show 42 + c - 42 = c by omega]
theorem wr_b (h : i = 42 + c) (h0 : 0 ≤ c) (h1 : c < 8) : upZ (rowF w op tn pl en kd nb) i v = rowF w op tn pl en kd (upZ nb c v) := by
  funext j
  by_cases hj : j = i
  · subst hj; rw [upZ_s]; exact ((rd_b h h0 h1).trans (upZ_s _ _ _)).symm
  · rw [upZ_n _ _ _ hj]; exact rowF_ext (fun _ => rfl) (fun _ => rfl) (fun _ => rfl) (fun _ _ => rfl) (fun _ _ => rfl) (fun _ _ => rfl) (fun _ _ => rfl) (fun _ => rfl) (fun _ _ => rfl) (fun _ _ => (upZ_n _ _ _ (by omega)).symm)
end RW
