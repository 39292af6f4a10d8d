/-- what stays true from call to call: the class's state and the reference's -/
def LI (n L a : Int) (w : Wt) (op tn : Int → Int) (cnt : Int) (ln dr pl : Int → Int) (rp rpt : Rt) (rn sp en : Int) (kd nb : Int → Int) : Prop :=
  (1 ≤ n ∧ n ≤ 6) ∧ (5 ≤ L ∧ L ≤ 40) ∧ (1 ≤ a ∧ a ≤ 50) ∧ WI n L a w ∧ opB op ∧ (∀ g, n < g → op g = 0) ∧ tnB tn ∧ (∀ g, n < g → tn g = 0) ∧ (0 ≤ cnt ∧ cnt ≤ 10) ∧ lnB ln ∧ lnB dr ∧ plI n pl ∧ GR n L a w op tn ∧ BF n cnt ln pl ∧ tot n w + sp - rn = 20 * a ∧ rpR n en kd nb rp ∧ RI rpt
def sx (xs : Nat → Int32) (i : Int) : Int := (xs i.toNat).toInt
theorem sx_b (xs : Nat → Int32) (i : Int) : -2147483648 ≤ sx xs i ∧ sx xs i < 2147483648 := ib_of _
/-- what the law's walk has at hand -/
def LFx (p : Program) (s : State) (m : MethodId) (c : Code) (b L : Nat) (xs : Nat → Int32) (D : va_G) (tys : tyL) (A : Nat → Prop) : Prop :=
  p.tables.exec = Jvm.exec ∧ c.code = cL_law ∧ c.maxLocals = 9 ∧ (∀ w ∈ wsL_law, w.before #[Value.ref b] s = true) ∧ s.vm.findClass RL = some m.cls ∧ va_X b L xs s s.heap ∧ b < s.heap.size ∧ ¬ A b ∧ (∀ q, s.heap.size ≤ q → A q) ∧ va_K D vwCl tys s ∧ NW s ∧ XP A s s.heap ∧ NC s
theorem LFx.dr {p : Program} {s : State} {m : MethodId} {c : Code} {b L : Nat} {xs : Nat → Int32} {D : va_G} {tys : tyL} {A : Nat → Prop} (h : LFx p s m c b L xs D tys A) (d : Drawn) : LFx p (s.setDrawn d) m c b L xs D tys A := by
  obtain ⟨h1, h2, h3, h4, h5, h6, h7, h8, h9, h10, h11, h12, h13⟩ := h
  exact ⟨h1, h2, h3, dr_words h4 d, h5, h6, h7, h8, h9, va_K.moved (u := s) (U := s.setDrawn d) (Vm.Alike.refl s.vm) h10, NW.same (s := s) (U := s.setDrawn d) rfl h11, h12.go (U := s.setDrawn d) (State.WarmedH.refl s) (fun _ h => h) (fun _ _ _ => rfl), h13.moved (u := s) (U := s.setDrawn d) (Vm.Alike.refl s.vm)⟩
section LAW
variable {p : Program} {l : Launch} {e : Env} {R : Room} {s : State} {m : MethodId} {args : Array Value} {below : List Frame} {meth : Method} {c : Code} {H : Heap} {locs : List Loc} {cells slots : Nat} {Q : State → Prop}
variable {cc : ByteArray} {pc : Nat} {ls : Array Slot} {rest : List Value} {D : va_G} {A : Nat → Prop} {tys : tyL} {w : va_W} {H0 : Heap} {a : Nat}
theorem li_sld {b L : Nat} {xs : Nat → Int32} {i : Int} (hx : p.tables.exec = Jvm.exec) (hb : c.code = cc) (hX : va_X b L xs s H0) (hbl : b < H0.size) (hbA : ¬ A b) (hS : va_S A H0 H locs) (h0 : 0 ≤ i) (h1 : i < (L : Int)) (hi : ib i) (hdg : decode cc pc = .ok (.iaload, 1))
    (k : W p l e R s m args below meth c H locs cells slots Q (F0 m (pc + 1) ls (.int (iI (sx xs i)) :: rest))) : W p l e R s m args below meth c H locs cells slots Q (F0 m pc ls (.int (iI i) :: .ref b :: rest)) := by
  refine va_sld hx hb hX hbl hbA hS (bz_in h0 h1 hi) hdg ?_
  rw [iI_cl h0 hi]
  have e1 : iI (sx xs i) = xs i.toNat := iI_of _
  rw [e1] at k
  exact k
theorem li_lald0 {q0 t0 : Nat} {cA : ClassId} {f : Nat → Int64} {v : Int64} (hx : p.tables.exec = Jvm.exec) (hb : c.code = cc) (hK : va_K D vwCl tys s) (hP : va_P D vwCl w H) (ha : w[q0]? = some (a, .inl (cA, 1, .inr (.inl f)))) (ht : tys[t0]? = some (cA, .long)) (hv : f 0 = v) (hdg : decode cc pc = .ok (.laload, 1))
    (k : W p l e R s m args below meth c H locs cells slots Q (F0 m (pc + 1) ls (.long v :: rest))) : W p l e R s m args below meth c H locs cells slots Q (F0 m pc ls (.int (iI 0) :: .ref a :: rest)) := by
  refine va_lald hx hb hK hP q0 t0 ha ht (bz_in (by decide) (by decide) ib_0) hdg ?_
  have e1 : f (iI 0).toNatClampNeg = v := hv
  rw [e1]
  exact k
theorem li_lceq {x y : Int64} (hx : p.tables.exec = Jvm.exec) (hb : c.code = cc) (h : x = y) (hdg : decode cc pc = .ok (.lcmp, 1))
    (k : W p l e R s m args below meth c H locs cells slots Q (F0 m (pc + 1) ls (.int (iI 0) :: rest))) : W p l e R s m args below meth c H locs cells slots Q (F0 m pc ls (.long y :: .long x :: rest)) := by
  subst h
  rw [iI_0] at k
  intro T hT X
  obtain ⟨t, a, b⟩ := k T hT X
  have h1 : ¬ x > x := fun h => Int64.lt_irrefl h
  refine ⟨t, ?_, b⟩
  jvm_step X.here [X.here.top, hx, hb, hdg, h1]
  exact a
variable {nL maxL index n k : Nat} {own : String} {Ts ws : List Cond} {y : MethodName} {bytes : ByteArray} {ret : Option FieldType} {hh : List (Nat × Nat × Nat × Nat)} {As st0 : List Value} {wc wr : va_W} {isC isR isN : List Nat}
theorem cs_w {r : Int} {w1 wn : va_W} (Sx : CallFix p m c cc nL s args Ts own) (hM : CW l y ws k As D tys wc r w1) (cw : vx_CSW R s args own index y bytes maxL ret hh ws (rK k 1 6) 1 6 n)
    (hK : va_K D vwCl tys s) (hNW : NW s) (hX : XP A s s.heap) (hNC : NC s) (hP : va_P D vwCl w H) (hD : va_D A w) (hS : va_S A s.heap H locs) (hA : ∀ q, s.heap.size ≤ q → A q)
    (hC : isC.map (fun i => w[i]?) = wc.map some) (hR : isR.map (fun i => w[i]?) = wr.map some) (hn0 : va_nd isC = true) (hn1 : va_nd isR = true) (hdis : ∀ i ∈ isR, i ∉ isC) (hN : isN.map (fun i => (wr ++ w1)[i]?) = wn.map some) (hn2 : va_nd isN = true)
    (hn : As.length = n) (hsize : ls.size = nL) (hstack : st0 = As.reverse ++ rest) (hW : (rest.map fun v => v.category).sum ≤ 8) (hdg : decode cc pc = .ok (.invokestatic index, 3)) (hf : cells + 1 ≤ R.cells ∧ slots + 6 ≤ R.slots)
    (kk : ∀ (H1 : Heap) (locs1 : List Loc), va_P D vwCl wn H1 → va_D A wn → va_S A s.heap H1 locs1 → W p l e R s m args below meth c H1 locs1 (cells + 1) (slots + 6) Q (F0 m (pc + 3) ls (.int (iI r) :: rest))) : W p l e R s m args below meth c H locs cells slots Q (F0 m pc ls st0) := by
  have hPc := hP.sub isC (fm_of hC)
  have hDc := hD.sub isC hn0 hC
  have hFc := va_free (wc := wc) hD hS hA isC hC
  refine va_calli (vx_runSW (As := As) (rest := rest) Sx (hM H.size) cw ⟨cPreY_blind, fun U hU hW => ⟨rfl, ⟨⟨by rw [hU], by rw [hU]; exact hPc, va_K.moved hW.alike hK, hDc.weaken (fun _ _ _ _ => trivial), hNW.warm hW⟩, hX.go hW hFc (fun a h1 h2 => by rw [hU]; exact hS.2.1 a h1 h2)⟩, hNC.moved hW.alike⟩⟩ rfl hn hsize hstack (lv_room hW) hdg hf) hS (fun q _ h => hFc q h) hFc (fun r9 u t H1 locs1 ht hvm hw hB hz1 hk1 hS => ?_)
  obtain ⟨hP1, hK1, hD1⟩ := hB
  rw [ht] at hP1
  obtain ⟨hP, hD⟩ := va_join (wr := wr) (w1 := w1) hP hD isC isR hC hR hn1 hdis hk1 hFc hP1 hD1
  subst hw
  exact kk H1 locs1 (hP.sub isN (fm_of hN)) (hD.sub isN hn2 hN) hS
end LAW
def ub (z : Int) : Int := if z = 0 then 0 else 1
theorem ub_01 (z : Int) : ub z = 0 ∨ ub z = 1 := by unfold ub; split <;> omega
theorem b64_1 : (iI 1).toInt64 = 1 := by decide +kernel
theorem b64_0 : (iI 0).toInt64 = 0 := by decide +kernel
theorem rk_eq {n en : Int} {kd nb : Int → Int} {rp : Rt} (h : rpR n en kd nb rp) (x : Int) : rpK rp x = if 0 ≤ x ∧ x ≤ en - 1 then kd x else -1 := by
  obtain ⟨-, h1, h2, h3⟩ := h
  by_cases q : 0 ≤ x ∧ x ≤ en - 1
  · rw [if_pos q]; exact (h3 x q.1 (by omega)).1.symm
  · rw [if_neg q]; unfold rpK; rw [if_pos (by omega)]
theorem rn_eq {n en : Int} {kd nb : Int → Int} {rp : Rt} (h : rpR n en kd nb rp) (x : Int) : rpN rp x = if 0 ≤ x ∧ x ≤ en - 1 then nb x else -1 := by
  obtain ⟨-, h1, h2, h3⟩ := h
  by_cases q : 0 ≤ x ∧ x ≤ en - 1
  · rw [if_pos q]; exact (h3 x q.1 (by omega)).2.symm
  · rw [if_neg q]; unfold rpN
    have e : rpK rp x = -1 := by unfold rpK; rw [if_pos (by omega)]
    rw [e, if_neg (by decide), if_neg (by decide)]
