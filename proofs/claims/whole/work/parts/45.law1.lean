-- worlds side by side, without their cells in sight
theorem nd_of : ∀ (l : List Nat), l.Nodup → va_nd l = true
  | [], _ => rfl
  | a :: l, h => by
    have h1 := List.nodup_cons.mp h
    simp only [va_nd, Bool.and_eq_true, decide_eq_true_eq]
    exact ⟨h1.1, nd_of l h1.2⟩
theorem ix_l (a b : va_W) : (List.range a.length).map (fun i => (a ++ b)[i]?) = a.map some := by
  apply List.ext_getElem?
  intro i
  rw [List.getElem?_map, List.getElem?_map]
  by_cases h : i < a.length
  · rw [List.getElem?_range h, List.getElem?_eq_getElem h]
    show some ((a ++ b)[i]?) = some (some a[i])
    rw [List.getElem?_append_left h, List.getElem?_eq_getElem h]
  · rw [List.getElem?_eq_none (by rw [List.length_range]; omega), List.getElem?_eq_none (by omega)]
    rfl
theorem ix_r (a b : va_W) : ((List.range b.length).map (fun i => a.length + i)).map (fun i => (a ++ b)[i]?) = b.map some := by
  rw [List.map_map]
  apply List.ext_getElem?
  intro i
  rw [List.getElem?_map, List.getElem?_map]
  by_cases h : i < b.length
  · rw [List.getElem?_range h, List.getElem?_eq_getElem h]
    show some ((a ++ b)[a.length + i]?) = some (some b[i])
    rw [List.getElem?_append_right (by omega), Nat.add_sub_cancel_left, List.getElem?_eq_getElem h]
  · rw [List.getElem?_eq_none (by rw [List.length_range]; omega), List.getElem?_eq_none (by omega)]
    rfl
theorem ix_s (a b : va_W) : (((List.range b.length).map (fun i => a.length + i)) ++ List.range a.length).map (fun i => (a ++ b)[i]?) = (b ++ a).map some := by
  rw [List.map_append, ix_r, ix_l, List.map_append]
theorem nd_r (k n : Nat) : ((List.range n).map (fun i => k + i)).Nodup := List.Pairwise.map _ (fun a b h e => h (Nat.add_left_cancel e)) (List.nodup_range (n := n))
theorem nd_dis (k n : Nat) : ∀ i ∈ (List.range n).map (fun i => k + i), i ∉ List.range k := by
  intro i hi hj
  obtain ⟨j, -, rfl⟩ := List.mem_map.mp hi
  have := List.mem_range.mp hj
  omega
theorem nd_s (k n : Nat) : (((List.range n).map (fun i => k + i)) ++ List.range k).Nodup := by
  refine List.pairwise_append.mpr ⟨nd_r k n, List.nodup_range (n := k), fun i hi j hj e => ?_⟩
  subst e
  exact nd_dis k n i hi hj
theorem wp_perm {D : va_G} {cl : List vw_C} {w w' : va_W} {H : Heap} (h : w.Perm w') (hP : va_P D cl w H) : va_P D cl w' H := fun k q hk => by
  obtain ⟨i, hi⟩ := List.getElem?_of_mem (h.mem_iff.mpr (List.mem_of_getElem? hk))
  exact hP i q hi
theorem wd_iff {A : Nat → Prop} {w : va_W} : va_D A w ↔ (w.map Prod.fst).Nodup ∧ ∀ q ∈ w, A q.1 := by
  constructor
  · intro h
    refine ⟨List.pairwise_iff_getElem.mpr (fun i j hi hj hij e => ?_), fun q hq => ?_⟩
    · rw [List.length_map] at hi hj
      rw [List.getElem_map, List.getElem_map] at e
      have := h.1 i j _ _ (List.getElem?_eq_getElem hi) (List.getElem?_eq_getElem hj) e
      omega
    · obtain ⟨i, hi⟩ := List.getElem?_of_mem hq
      exact h.2 i q hi
  · rintro ⟨h1, h2⟩
    have h1 := List.pairwise_iff_getElem.mp h1
    refine ⟨fun i j x y hi hj hxy => ?_, fun k q hk => h2 q (List.mem_of_getElem? hk)⟩
    obtain ⟨li, ei⟩ := List.getElem?_eq_some_iff.mp hi
    obtain ⟨lj, ej⟩ := List.getElem?_eq_some_iff.mp hj
    subst ei; subst ej
    rcases Nat.lt_trichotomy i j with h | h | h
    · exact absurd (by rw [List.getElem_map, List.getElem_map]; exact hxy) (h1 i j (by rw [List.length_map]; exact li) (by rw [List.length_map]; exact lj) h)
    · exact h
    · exact absurd (by rw [List.getElem_map, List.getElem_map]; exact hxy.symm) (h1 j i (by rw [List.length_map]; exact lj) (by rw [List.length_map]; exact li) h)
theorem wd_perm {A : Nat → Prop} {w w' : va_W} (h : w.Perm w') (hD : va_D A w) : va_D A w' := by
  have h1 := wd_iff.mp hD
  exact wd_iff.mpr ⟨(h.map Prod.fst).nodup h1.1, fun q hq => h1.2 q (h.mem_iff.mpr hq)⟩
theorem wq_c (a b : va_W) : (a ++ b).Perm (b ++ a) := List.perm_append_comm
theorem wq_r (a b c : va_W) : ((a ++ b) ++ c).Perm ((a ++ c) ++ b) := by
  rw [List.append_assoc, List.append_assoc]
  exact (List.perm_append_comm (l₁ := b) (l₂ := c)).append_left a
theorem wg_l {a b : va_W} {q : Nat} {x : Nat × va_E} (h : a[q]? = some x) : (a ++ b)[q]? = some x := by
  rw [List.getElem?_append_left (List.getElem?_eq_some_iff.mp h).1]; exact h
section LAW1
variable {p : Program} {l : Launch} {e : Env} {R : Room} {s : State} {m : MethodId} {args : Array Value} {below : List Frame} {meth : Method} {c : Code} {H : Heap} {locs : List Loc} {cells slots : Nat} {Q : State → Prop}
variable {cc : ByteArray} {pc : Nat} {ls : Array Slot} {rest : List Value} {D : va_G} {A : Nat → Prop} {tys : tyL} {H0 : Heap} {a : Nat}
variable {nL maxL index n k : Nat} {own C : String} {Ts ws : List Cond} {y : MethodName} {bytes : ByteArray} {ret : Option FieldType} {hh : List (Nat × Nat × Nat × Nat)} {b : Addr} {As st0 : List Value} {wc wR w1 : va_W} {ci q0 : Nat} {vq : vw_C} {fs : List Value}
/-- a call of an object's method: its world first -/
theorem cl_p {r : Int} (Sx : CallFix p m c cc nL s args Ts own) (hM : Di l y ws k (.ref b :: As) D tys wc r w1) (cw : CallW R s args own C index y bytes maxL ret ws (rK k 0 0) 0 0 n)
    (hK : va_K D vwCl tys s) (hNW : NW s) (hP : va_P D vwCl (wc ++ wR) H) (hD : va_D A (wc ++ wR)) (hS : va_S A s.heap H locs) (hA : ∀ q, s.heap.size ≤ q → A q)
    (hc : vwCl[ci]? = some vq) (hq : vq.1 = C) (he : wc[q0]? = some (b, .inr (ci, fs))) (hn : As.length = n) (hsize : ls.size = nL) (hstack : st0 = As.reverse ++ .ref b :: rest) (hW : (rest.map fun v => v.category).sum ≤ 8) (hdg : decode cc pc = .ok (.invokevirtual index, 3)) (hf : cells ≤ R.cells ∧ slots ≤ R.slots)
    (kk : ∀ (H1 : Heap) (locs1 : List Loc), va_P D vwCl (w1 ++ wR) H1 → va_D A (w1 ++ wR) → va_S A s.heap H1 locs1 → W p l e R s m args below meth c H1 locs1 cells slots Q (F0 m (pc + 3) ls (.int (iI r) :: rest))) : W p l e R s m args below meth c H locs cells slots Q (F0 m pc ls st0) :=
  cl_i0 (isC := List.range wc.length) (isR := (List.range wR.length).map (fun i => wc.length + i)) (isN := ((List.range w1.length).map (fun i => wR.length + i)) ++ List.range wR.length) (wr := wR) (wn := w1 ++ wR) Sx hM cw hK hNW hP hD hS hA (ix_l _ _) (ix_r _ _) (nd_of _ List.nodup_range) (nd_of _ (nd_r _ _)) (nd_dis _ _) (ix_s _ _) (nd_of _ (nd_s _ _)) hc hq he hn hsize hstack hW hdg hf kk
/-- a call of one of the law's wrappers: its world first -/
theorem cs_p {r : Int} (Sx : CallFix p m c cc nL s args Ts own) (hM : CW l y ws k As D tys wc r w1) (cw : vx_CSW R s args own index y bytes maxL ret hh ws (rK k 1 6) 1 6 n)
    (hK : va_K D vwCl tys s) (hNW : NW s) (hX : XP A s s.heap) (hNC : NC s) (hP : va_P D vwCl (wc ++ wR) H) (hD : va_D A (wc ++ wR)) (hS : va_S A s.heap H locs) (hA : ∀ q, s.heap.size ≤ q → A q)
    (hn : As.length = n) (hsize : ls.size = nL) (hstack : st0 = As.reverse ++ rest) (hW : (rest.map fun v => v.category).sum ≤ 8) (hdg : decode cc pc = .ok (.invokestatic index, 3)) (hf : cells + 1 ≤ R.cells ∧ slots + 6 ≤ R.slots)
    (kk : ∀ (H1 : Heap) (locs1 : List Loc), va_P D vwCl (w1 ++ wR) H1 → va_D A (w1 ++ wR) → va_S A s.heap H1 locs1 → W p l e R s m args below meth c H1 locs1 (cells + 1) (slots + 6) Q (F0 m (pc + 3) ls (.int (iI r) :: rest))) : W p l e R s m args below meth c H locs cells slots Q (F0 m pc ls st0) :=
  cs_w (isC := List.range wc.length) (isR := (List.range wR.length).map (fun i => wc.length + i)) (isN := ((List.range w1.length).map (fun i => wR.length + i)) ++ List.range wR.length) (wr := wR) (wn := w1 ++ wR) Sx hM cw hK hNW hX hNC hP hD hS hA (ix_l _ _) (ix_r _ _) (nd_of _ List.nodup_range) (nd_of _ (nd_r _ _)) (nd_dis _ _) (ix_s _ _) (nd_of _ (nd_s _ _)) hn hsize hstack hW hdg hf kk
/-- calls that may draw -/
theorem cd_p {r : UInt64} {d0 : Drawn} (hd0 : s.drawn.sameBut d0 lw_cs) (Sx : CallFix p m c cc nL (s.setDrawn d0) args Ts own) (hM : CD l y ws k (.ref b :: As) D tys wc r w1) (cw : CallW R (s.setDrawn d0) args own C index y bytes maxL ret ws (rK k 0 0) 0 0 n)
    (hK : va_K D vwCl tys s) (hNW : NW s) (hP : va_P D vwCl (wc ++ wR) H) (hD : va_D A (wc ++ wR)) (hS : va_S A s.heap H locs) (hA : ∀ q, s.heap.size ≤ q → A q)
    (hc : vwCl[ci]? = some vq) (hq : vq.1 = C) (he : wc[q0]? = some (b, .inr (ci, fs))) (hn : As.length = n) (hsize : ls.size = nL) (hstack : st0 = As.reverse ++ .ref b :: rest) (hW : (rest.map fun v => v.category).sum ≤ 8) (hdg : decode cc pc = .ok (.invokevirtual index, 3)) (hf : cells ≤ R.cells ∧ slots ≤ R.slots)
    (kk : ∀ (x : UInt64) (H1 : Heap) (locs1 : List Loc) (d1 : Drawn), s.drawn.sameBut d1 lw_cs → alike64 x r = true → va_P D vwCl (w1 ++ wR) H1 → va_D A (w1 ++ wR) → va_S A s.heap H1 locs1 → W p l e R (s.setDrawn d1) m args below meth c H1 locs1 cells slots Q (F0 m (pc + 3) ls (.double x :: rest))) : W p l e R (s.setDrawn d0) m args below meth c H locs cells slots Q (F0 m pc ls st0) := by
  have hC := ix_l wc wR
  have hR := ix_r wc wR
  have hPc := hP.sub _ (fm_of hC)
  have hDc := hD.sub _ (nd_of _ List.nodup_range) hC
  have hFc := va_free (wc := wc) hD hS hA _ hC
  refine va_calldD hd0 (va_runV_D (As := As) (rest := rest) Sx (hM H.size) cw ⟨cPre_blind, by subst hq; exact va_recv (s := s.setDrawn d0) (va_K.moved (u := s) (U := s.setDrawn d0) (Vm.Alike.refl s.vm) hK) hPc hc he, fun U hU hW => ⟨rfl, by rw [hU], by rw [hU]; exact hPc, va_K.moved (u := s) hW.alike hK, hDc.weaken (fun _ _ _ _ => trivial), (NW.same (s := s) (U := s.setDrawn d0) rfl hNW).warm hW⟩⟩ rfl hn hsize hstack (lv_room hW) hdg hf) hS (fun q _ h => hFc q h) hFc (fun r9 u t H1 locs1 ht hvm hw hB hz1 hk1 hS d1 hd1 => ?_)
  obtain ⟨hP1, hK1, hD1⟩ := hB
  rw [ht] at hP1
  obtain ⟨hP, hD⟩ := va_join (wr := wR) (w1 := w1) hP hD _ _ hC hR (nd_of _ (nd_r _ _)) (nd_dis _ _) hk1 hFc hP1 hD1
  exact kk r9 H1 locs1 d1 hd1 hw (wp_perm (wq_c _ _) hP) (wd_perm (wq_c _ _) hD) hS
theorem cf_p {r : UInt32} {d0 : Drawn} (hd0 : s.drawn.sameBut d0 lw_cs) (Sx : CallFix p m c cc nL (s.setDrawn d0) args Ts own) (hM : CF l y ws k (.ref b :: As) D tys wc r w1) (cw : CallW R (s.setDrawn d0) args own C index y bytes maxL ret ws (rK k 0 0) 0 0 n)
    (hK : va_K D vwCl tys s) (hNW : NW s) (hP : va_P D vwCl (wc ++ wR) H) (hD : va_D A (wc ++ wR)) (hS : va_S A s.heap H locs) (hA : ∀ q, s.heap.size ≤ q → A q)
    (hc : vwCl[ci]? = some vq) (hq : vq.1 = C) (he : wc[q0]? = some (b, .inr (ci, fs))) (hn : As.length = n) (hsize : ls.size = nL) (hstack : st0 = As.reverse ++ .ref b :: rest) (hW : (rest.map fun v => v.category).sum ≤ 8) (hdg : decode cc pc = .ok (.invokevirtual index, 3)) (hf : cells ≤ R.cells ∧ slots ≤ R.slots)
    (kk : ∀ (x : UInt32) (H1 : Heap) (locs1 : List Loc) (d1 : Drawn), s.drawn.sameBut d1 lw_cs → alike32 x r = true → va_P D vwCl (w1 ++ wR) H1 → va_D A (w1 ++ wR) → va_S A s.heap H1 locs1 → W p l e R (s.setDrawn d1) m args below meth c H1 locs1 cells slots Q (F0 m (pc + 3) ls (.float x :: rest))) : W p l e R (s.setDrawn d0) m args below meth c H locs cells slots Q (F0 m pc ls st0) := by
  have hC := ix_l wc wR
  have hR := ix_r wc wR
  have hPc := hP.sub _ (fm_of hC)
  have hDc := hD.sub _ (nd_of _ List.nodup_range) hC
  have hFc := va_free (wc := wc) hD hS hA _ hC
  refine va_callfD hd0 (va_runV_D (As := As) (rest := rest) Sx (hM H.size) cw ⟨cPre_blind, by subst hq; exact va_recv (s := s.setDrawn d0) (va_K.moved (u := s) (U := s.setDrawn d0) (Vm.Alike.refl s.vm) hK) hPc hc he, fun U hU hW => ⟨rfl, by rw [hU], by rw [hU]; exact hPc, va_K.moved (u := s) hW.alike hK, hDc.weaken (fun _ _ _ _ => trivial), (NW.same (s := s) (U := s.setDrawn d0) rfl hNW).warm hW⟩⟩ rfl hn hsize hstack (lv_room hW) hdg hf) hS (fun q _ h => hFc q h) hFc (fun r9 u t H1 locs1 ht hvm hw hB hz1 hk1 hS d1 hd1 => ?_)
  obtain ⟨hP1, hK1, hD1⟩ := hB
  rw [ht] at hP1
  obtain ⟨hP, hD⟩ := va_join (wr := wR) (w1 := w1) hP hD _ _ hC hR (nd_of _ (nd_r _ _)) (nd_dis _ _) hk1 hFc hP1 hD1
  exact kk r9 H1 locs1 d1 hd1 hw (wp_perm (wq_c _ _) hP) (wd_perm (wq_c _ _) hD) hS
/-- z != 0, as the law hands it on -/
theorem li_nz {z : Int} (hx : p.tables.exec = Jvm.exec) (hb : c.code = cc) (hz : ib z) (d0 : decode cc pc = .ok (.ifCond .eq 7, 3)) (d1 : decode cc (pc + 3) = .ok (.iconst 1, 1)) (d2 : decode cc (pc + 4) = .ok (.goto 4, 3)) (d3 : decode cc (pc + 7) = .ok (.iconst 0, 1))
    (k : W p l e R s m args below meth c H locs cells slots Q (F0 m (pc + 8) ls (.int (iI (ub z)) :: rest))) : W p l e R s m args below meth c H locs cells slots Q (F0 m pc ls (.int (iI z) :: rest)) := by
  refine li_if_eq (tgt := pc + 7) hx hb d0 (by omega) hz (fun h => ?_) (fun h => ?_)
  · refine li_const hx hb d3 ?_
    rw [show ub z = 0 from if_pos h] at k
    exact k
  · refine li_const hx hb d1 ?_
    refine lv_goto (tgt := pc + 8) hx hb d2 (by omega) ?_
    rw [show ub z = 1 from if_neg h] at k
    exact k
theorem li_nzl {z : Int} (hx : p.tables.exec = Jvm.exec) (hb : c.code = cc) (hz : ib z) (d0 : decode cc pc = .ok (.ifCond .eq 7, 3)) (d1 : decode cc (pc + 3) = .ok (.lconst 1, 1)) (d2 : decode cc (pc + 4) = .ok (.goto 4, 3)) (d3 : decode cc (pc + 7) = .ok (.lconst 0, 1))
    (k : W p l e R s m args below meth c H locs cells slots Q (F0 m (pc + 8) ls (.long (iI (ub z)).toInt64 :: rest))) : W p l e R s m args below meth c H locs cells slots Q (F0 m pc ls (.int (iI z) :: rest)) := by
  refine li_if_eq (tgt := pc + 7) hx hb d0 (by omega) hz (fun h => ?_) (fun h => ?_)
  · refine lv_lconst (v := 0) hx hb d3 rfl ?_
    rw [show ub z = 0 from if_pos h, b64_0] at k
    exact k
  · refine lv_lconst (v := 1) hx hb d1 rfl ?_
    refine lv_goto (tgt := pc + 8) hx hb d2 (by omega) ?_
    rw [show ub z = 1 from if_neg h, b64_1] at k
    exact k
end LAW1
-- doubles that are one number, or both no number
def dnn (p : UInt64) : Prop := FP.Core.decode FP.Core.b64 p.toNat = .nan
theorem dnn_of {a : UInt64} (h : 9218868437227405312 < a.toNat % 9223372036854775808) : dnn a := by
  have e1 : FP.Core.fieldE FP.Core.b64 a.toNat = FP.Core.b64.exps - 1 := by
    show a.toNat / 4503599627370496 % 2048 = 2047
    omega
  have e2 : FP.Core.fieldT FP.Core.b64 a.toNat ≠ 0 := by
    show a.toNat % 4503599627370496 ≠ 0
    omega
  unfold dnn FP.Core.decode
  rw [if_pos e1, if_neg e2]
theorem nan_d {a : UInt64} (h : isNaN64 a = true) : dnn a := by
  have h2 := UInt64.lt_iff_toNat_lt.mp (of_decide_eq_true h)
  rw [UInt64.toNat_and, show (0x7fffffffffffffff : UInt64).toNat = 2 ^ 63 - 1 from rfl, Nat.and_two_pow_sub_one_eq_mod] at h2
  exact dnn_of h2
theorem nan_f {a : UInt32} (h : isNaN32 a = true) : FP.Core.fIsNaN a = true := by
  have h2 := UInt32.lt_iff_toNat_lt.mp (of_decide_eq_true h)
  rw [UInt32.toNat_and, show (0x7fffffff : UInt32).toNat = 2 ^ 31 - 1 from rfl, Nat.and_two_pow_sub_one_eq_mod] at h2
  have h3 : 2139095040 < a.toNat % 2147483648 := h2
  have e1 : FP.Core.fieldE FP.Core.b32 a.toNat = FP.Core.b32.exps - 1 := by
    show a.toNat / 8388608 % 256 = 255
    omega
  have e2 : FP.Core.fieldT FP.Core.b32 a.toNat ≠ 0 := by
    show a.toNat % 8388608 ≠ 0
    omega
  refine decide_eq_true ?_
  unfold FP.Core.decode
  rw [if_pos e1, if_neg e2]
theorem nan_fd {a : UInt32} (h : FP.Core.fIsNaN a = true) : dnn (FP.f2d a) := by
  have e1 : FP.f2d a = FP.nanF2D a := by unfold FP.f2d; rw [if_pos h]
  rw [e1]
  refine dnn_of ?_
  unfold FP.nanF2D
  show 9218868437227405312 < _ % 2 ^ 63
  rw [UInt64.toNat_or, UInt64.toNat_or, Nat.or_mod_two_pow, Nat.or_mod_two_pow]
  have h1 : 9221120237041090560 ≤ ((a >>> 31).toUInt64 <<< 63).toNat % 2 ^ 63 ||| (9221120237041090560 : UInt64).toNat % 2 ^ 63 := Nat.right_le_or
  exact Nat.lt_of_lt_of_le (by decide) (Nat.le_trans h1 Nat.left_le_or)
def dal (p q : UInt64) : Prop := p = q ∨ (dnn p ∧ dnn q)
theorem dal_of {p q x : UInt64} (h1 : alike64 p x = true) (h2 : alike64 q x = true) : dal p q := by
  unfold alike64 at h1 h2
  rw [Bool.or_eq_true, decide_eq_true_iff, Bool.and_eq_true] at h1 h2
  rcases h1 with h1 | h1 <;> rcases h2 with h2 | h2
  · exact Or.inl (h1.trans h2.symm)
  · exact Or.inr ⟨by rw [h1]; exact nan_d h2.2, nan_d h2.1⟩
  · exact Or.inr ⟨nan_d h1.1, by rw [h2]; exact nan_d h1.2⟩
  · exact Or.inr ⟨nan_d h1.1, nan_d h2.1⟩
theorem dal_f {p q : UInt64} {f g x : UInt32} (h1 : alike32 f x = true) (h2 : alike32 g x = true) (h3 : alike64 p (FP.f2d f) = true) (h4 : alike64 q (FP.f2d g) = true) : dal p q := by
  have hn : ∀ {u : UInt64} {v : UInt32}, alike64 u (FP.f2d v) = true → isNaN32 v = true → dnn u := by
    intro u v h hv
    unfold alike64 at h
    rw [Bool.or_eq_true, decide_eq_true_iff, Bool.and_eq_true] at h
    rcases h with h | h
    · rw [h]; exact nan_fd (nan_f hv)
    · exact nan_d h.1
  unfold alike32 at h1 h2
  rw [Bool.or_eq_true, decide_eq_true_iff, Bool.and_eq_true] at h1 h2
  rcases h1 with h1 | h1
  · rcases h2 with h2 | h2
    · subst h1; subst h2; exact dal_of h3 h4
    · exact Or.inr ⟨hn h3 (by rw [h1]; exact h2.2), hn h4 h2.1⟩
  · rcases h2 with h2 | h2
    · exact Or.inr ⟨hn h3 h1.1, hn h4 (by rw [h2]; exact h1.2)⟩
    · exact Or.inr ⟨hn h3 h1.1, hn h4 h2.1⟩
theorem dcm_nan {p q : UInt64} (h : dnn p) : Op.cmpValue (FP.dcmp p q) .l = -1 := by
  have h1 : FP.Core.order (FP.Core.decode FP.Core.b64 p.toNat) (FP.Core.decode FP.Core.b64 q.toNat) = none := by
    rw [show FP.Core.decode FP.Core.b64 p.toNat = .nan from h]
    cases FP.Core.decode FP.Core.b64 q.toNat <;> rfl
  rw [show FP.dcmp p q = none from h1]; rfl
