def thN : List String := ["java/lang/RuntimeException", "java/lang/Exception"]
def thL : List Cond := tables_1.filter (fun w => match w with | .declares .. => true | .castable .. => true | _ => false)
def TW (U : State) : Prop := ∀ w ∈ thL, va_Nw w U
theorem TW.warm {s U : State} (hW : s.WarmedH U.vm) (h : TW s) : TW U := by
  intro w hw
  have h1 := h w hw
  have h2 := (List.mem_filter.mp hw).2
  cases w <;> first | exact absurd h2 Bool.false_ne_true | exact va_Nw.warmD hW h1 | exact va_Nw.warmC hW h1
theorem TW.same {s U : State} (e : s.vm = U.vm) (h : TW s) : TW U := by
  intro w hw
  have h1 := h w hw
  have h2 := (List.mem_filter.mp hw).2
  cases w <;> first | exact absurd h2 Bool.false_ne_true | exact va_Nw.same rfl e h1
theorem TW.use {A : Array Value} {s : State} (h : TW s) : ∀ w ∈ thL, w.before A s = true := by
  intro w hw
  have h1 := h w hw
  have h2 := (List.mem_filter.mp hw).2
  cases w <;> first | exact absurd h2 Bool.false_ne_true | exact va_Nw.use rfl h1
theorem TW.of {A : Array Value} {s : State} (h : ∀ w ∈ lw_tbl, w.before A s = true) : TW s := by
  intro w hw
  have h1 := h w (List.mem_append_right _ (List.mem_filter.mp hw).1)
  have h2 := (List.mem_filter.mp hw).2
  cases w <;> first | exact absurd h2 Bool.false_ne_true | exact va_Nw.of rfl h1
def stL : List (Nat × String) := [(48, "units outside 1 to 999"), (65, "the highest gate is open"), (80, "the gate cannot be opened"), (92, "turns outside 0 to 5"), (97, "a gate beside the sluice is open"), (103, "minutes outside 1 to 60"), (111, "length outside 5 to 60"), (113, "draught outside 1 to 19"), (123, "there are 10 boats"), (125, "the pound is too shallow"), (142, "no such place"), (155, "the boat cannot move"), (201, "no such chamber"), (203, "no such gate"), (205, "no such boat")]
def SX (U : State) : Prop := ∀ q ∈ stL, ∃ sa, vk_R RX5 q.1 q.2 sa U
/-- what a throw needs of the world around -/
def XP (A : Nat → Prop) (U : State) (H : Heap) : Prop := TW U ∧ SX U ∧ vx_Zq Bundle.tN "UNASSIGNED_STACK" Bundle.steD A U H ∧ vx_Zq Bundle.tN "SUPPRESSED_SENTINEL" Bundle.listD A U H
theorem XP.go {A B : Nat → Prop} {s U : State} {H H1 : Heap} (h : XP A s H) (hW : s.WarmedH U.vm) (hAB : ∀ q, B q → A q) (hq : ∀ a : Nat, a < H.size → ¬ A a → H1[a]? = H[a]?) : XP B U H1 :=
  ⟨h.1.warm hW, fun q hm => (h.2.1 q hm).elim (fun sa k => ⟨sa, vk_R.warm hW k⟩), ((vx_Zq.moved hW.alike h.2.2.1).kept hq).narrow hAB, ((vx_Zq.moved hW.alike h.2.2.2).kept hq).narrow hAB⟩
def cPreX (D : va_G) (tys : tyL) (w : va_W) (sz : Nat) : State → Prop := fun U => cPre D tys w sz U ∧ XP (va_A w sz) U U.heap
theorem cPreX_blind {av : List Value} {D : va_G} {tys : tyL} {w : va_W} {sz : Nat} : FrameBlind (va_Pc av (cPreX D tys w sz)) := fun a U g mk q => by
  obtain ⟨q0, ⟨q1, qP, qK, qD, qN⟩, x1, x2, x3, x4⟩ := q
  exact ⟨q0, ⟨q1, qP, va_K.moved (u := U) (U := U.calling g mk a) (Vm.Alike.refl U.vm) qK, qD, NW.same (s := U) (U := U.calling g mk a) rfl qN⟩, TW.same (s := U) (U := U.calling g mk a) rfl x1, fun z hm => (x2 z hm).elim (fun sa k => ⟨sa, vk_R.same (u := U) (U := U.calling g mk a) rfl k⟩), vx_Zq.moved (u := U) (U := U.calling g mk a) (Vm.Alike.refl U.vm) x3, vx_Zq.moved (u := U) (U := U.calling g mk a) (Vm.Alike.refl U.vm) x4⟩
/-- it throws E, whatever comes, and the world stays -/
abbrev cTX (D : va_G) (tys : tyL) (w : va_W) (E : String) (A : Nat → Prop) : String → State → State → Prop := vx_X (S := Unit) (fun _ => True) (fun E' _ t => E' = E ∧ cB D tys A w t) A
abbrev qF : Array Value → State → Outcome → State → Prop := fun _ _ _ _ => False
def CT (l : Launch) (y : MethodName) (ws : List Cond) (k : Nat) (av : List Value) (D : va_G) (tys : tyL) (w : va_W) (E : String) : Prop :=
  ∀ sz, vx_Met l y ws (rK k 1 6) (va_Pc av (cPreX D tys w sz)) qF (cTX D tys w E (va_A w sz)) 1 6 (va_A w sz)
theorem ct_x {l : Launch} {y : MethodName} {ws ws' : List Cond} {k : Nat} {av : List Value} {D : va_G} {tys : tyL} {w : va_W} {E : String} {cc : ByteArray} {maxL : Nat} {ret : Option FieldType}
    (hy : plainName y.cls = true) (hw : ws = Cond.code y cc maxL ret :: ws') (hn : (lg_sl av).length ≤ maxL)
    (body : ∀ (p : Program) (e : Env) (s : State) (m : MethodId) (args : Array Value) (below : List Frame) (meth : Method) (c : Code) (ls : Array Slot) (A : Nat → Prop), p.tables.exec = Jvm.exec → c.code = cc → c.maxLocals = maxL → (∀ w ∈ ws, w.before args s = true) → s.vm.findClass y.cls = some m.cls → meth.locks = false → (∀ x ∈ c.exceptionTable.toList, False) → (∀ q, s.heap.size ≤ q → A q) → va_P D vwCl w s.heap → va_K D vwCl tys s → va_D A w → NW s → XP A s s.heap → va_S A s.heap s.heap [] → lv_has ls maxL (lv_args 0 av) → ∀ Q : State → Prop, vx_MQ below qF (cTX D tys w E A) args s 1 6 A = Q → W p l e (rK k 1 6) s m args below meth c s.heap [] 0 0 Q (F0 m 0 ls [])) :
    CT l y ws k av D tys w E := by
  intro sz
  refine vx_ofW (cc := cc) (maxL := maxL) (ret := ret) hy hw ?_
  intro p e s m args below meth c s₁ B hml htab hv
  obtain ⟨rfl, ⟨hsz, hP, hK, hD0, hN⟩, hX⟩ := hv
  have hts := atoms_spec (ws := ws) B.pre
  subst hsz
  have hD := hD0.self (sz := s.heap.size)
  have hl := lv_entry av (n := maxL) hn
  rw [lg_entry_eq]
  generalize (lg_sl av ++ List.replicate (maxL - (lg_sl av).length) Slot.unset).toArray = ls at hl ⊢
  exact body p e s m _ below meth c ls (va_A w s.heap.size) B.exec B.bytes hml hts (findClass_of_methodNamed B.named) B.notSynchronized htab (fun q h => Or.inr h) hP hK hD hN hX va_S.rf hl _ rfl
section THR
variable {p : Program} {l : Launch} {e : Env} {R : Room} {s : State} {m : MethodId} {args : Array Value} {below : List Frame} {meth : Method} {c : Code} {H : Heap} {locs : List Loc} {cells slots : Nat} {Q : State → Prop}
variable {cc : ByteArray} {pc : Nat} {ls : Array Slot} {rest : List Value} {D : va_G} {A : Nat → Prop} {tys : tyL} {w : va_W}
theorem thr_end {cls : String} (hP : va_P D vwCl w H) (hK : va_K D vwCl tys s) (hD : va_D A w) (hS : va_S A s.heap H locs) : ∀ t : State, s.vm.Alike t.vm → H.size ≤ t.heap.size → (∀ q : Nat, q < H.size → t.heap[q]? = H[q]?) → cTX D tys w cls A cls s t := fun t h1 h2 h3 =>
  ⟨(), trivial, ⟨rfl, hP.kept (fun k q hk => h3 q.1 (vx_lt hP hk)), va_K.moved h1 hK, hD⟩, Nat.le_trans hS.1 h2, fun q g1 g2 => (h3 q (Nat.lt_of_lt_of_le g1 hS.1)).trans (hS.2.1 q g1 g2)⟩
theorem li_thr {is ic : Nat} {text cls : String} (hx : p.tables.exec = Jvm.exec) (hb : c.code = cc) (hl0 : l.stackTraces = false) (ik : Nat) (hown : s.vm.findClass RX5 = some m.cls) (hcls : Bundle.fit cls = true)
    (hk : (Cond.classLink RX5 ik cls).before args s = true) (hini : (Cond.initialized cls).before args s = true) (hX : XP A s s.heap) (htx : (is, text) ∈ stL)
    (hat : ∀ w ∈ (vx_atS RX5 ic cls thN).filter goodWord, w.before args s = true) (hat2 : ∀ w ∈ (vx_atS RX5 ic cls thN).filter (fun w => !goodWord w), w ∈ thL) (hgood : ∀ w ∈ Cond.classLink RX5 ik cls :: Cond.initialized cls :: vx_atS RX5 ic cls thN, vx_ot w = true)
    (hS : va_S A s.heap H locs) (hsize : ls.size = c.maxLocals)
    (d0 : decode cc pc = .ok (.new ik, 3)) (d3 : decode cc (pc + 3) = .ok (.dup, 1)) (d4 : decode cc (pc + 4) = .ok (.ldc is, 2)) (d6 : decode cc (pc + 6) = .ok (.invokespecial ic, 3)) (d9 : decode cc (pc + 9) = .ok (.athrow, 1))
    (htab : ∀ x ∈ c.exceptionTable.toList, False) (hRf : 5 < R.frames) (hRl : (rest.map fun v => v.category).sum + 82 ≤ R.locals) (hRc : cells + 1 ≤ R.cells) (hRs : slots + 6 ≤ R.slots) (hlocks : meth.locks = false)
    (hP : va_P D vwCl w H) (hK : va_K D vwCl tys s) (hD : va_D A w) (hQ : vx_MQ below qF (cTX D tys w cls A) args s 1 6 A = Q) (hc : cells = 0) (hs : slots = 0) :
    W p l e R s m args below meth c H locs cells slots Q (F0 m pc ls rest) := by
  subst hQ
  obtain ⟨sa, hstr⟩ := hX.2.1 _ htx
  exact vx_throwS (names := thN) (A := A) hx hb hl0 hown hcls (by decide +kernel) hk hini hstr (vx_hat hat hat2 hX.1.use) hgood hX.2.2.1 hX.2.2.2 hS hsize d0 d3 d4 d6 d9 (fun x h => (htab x h).elim) hRf hRl hRc hRs hlocks (thr_end hP hK hD hS) hS.2.2 (by omega) (by omega)
theorem li_out {E : String} {ce : Cell} {q : Addr} (htab : ∀ x ∈ c.exceptionTable.toList, False) (hlocks : meth.locks = false) (hcell : H[q]? = some ce) (hv : ce.vm = .none) (hcl : s.vm.findClass E = some ce.cls)
    (hP : va_P D vwCl w H) (hK : va_K D vwCl tys s) (hD : va_D A w) (hS : va_S A s.heap H locs) (hQ : vx_MQ below qF (cTX D tys w E A) args s 1 6 A = Q) (hc : cells ≤ 1) (hs : slots ≤ 6) : vx_W p l e R s m args below meth c H locs cells slots Q (F0 m pc ls rest) q := by
  subst hQ
  exact vx_out (fun x h => (htab x h).elim) hlocks hcell hv hcl (fun t ht ha => thr_end hP hK hD hS t ha (by rw [ht]; exact Nat.le_refl _) (fun q _ => by rw [ht])) hS.2.2 hc hs
variable {nL maxL index n k : Nat} {own C E : String} {Ts ws : List Cond} {y : MethodName} {bytes : ByteArray} {ret : Option FieldType} {b : Addr} {As st0 : List Value} {wc wr : va_W} {isC isR isN : List Nat} {ci q0 : Nat} {vq : vw_C} {fs : List Value}
theorem cl_t (Sx : CallFix p m c cc nL s args Ts own) (hM : CT l y ws k (.ref b :: As) D tys wc E) (cw : CallW R s args own C index y bytes maxL ret ws (rK k 1 6) 1 6 n)
    (hK : va_K D vwCl tys s) (hNW : NW s) (hX : XP A s s.heap) (hP : va_P D vwCl w H) (hD : va_D A w) (hS : va_S A s.heap H locs) (hA : ∀ q, s.heap.size ≤ q → A q)
    (hC : isC.map (fun i => w[i]?) = wc.map some) (hR : isR.map (fun i => w[i]?) = wr.map some) (hn0 : va_nd isC = true) (hn1 : va_nd isR = true) (hdis : ∀ i ∈ isR, i ∉ isC) (hN : isN.map (fun i => (wr ++ wc)[i]?) = w.map some) (hn2 : va_nd isN = true)
    (hc : vwCl[ci]? = some vq) (hq : vq.1 = C) (he : wc[q0]? = some (b, .inr (ci, fs))) (hn : As.length = n) (hsize : ls.size = nL) (hstack : st0 = As.reverse ++ .ref b :: rest) (hW : (rest.map fun v => v.category).sum ≤ 8) (hdg : decode cc pc = .ok (.invokevirtual index, 3)) (hf : cells + 1 ≤ R.cells ∧ slots + 6 ≤ R.slots)
    (kx : ∀ (ce : Cell) (q9 : Addr) (H1 : Heap) (locs1 : List Loc), va_P D vwCl w H1 → va_D A w → va_S A s.heap H1 locs1 → H1[q9]? = some ce → ce.vm = .none → s.vm.findClass E = some ce.cls → vx_W p l e R s m args below meth c H1 locs1 (cells + 1) (slots + 6) Q (F0 m pc ls rest) q9) : W p l e R s m args below meth c H locs cells slots Q (F0 m pc ls st0) := by
  have hPc := hP.sub isC (fm_of hC)
  have hDc := hD.sub isC hn0 hC
  have hFc := va_free (wc := wc) hD hS hA isC hC
  have hr := vx_runV (e := e) (H := H) (locs := locs) (cells := cells) (slots := slots) (below := below) (meth := meth) (g := F0 m pc ls st0) (As := As) (rest := rest) Sx (hM H.size) cw ⟨cPreX_blind, by subst hq; exact va_recv hK hPc hc he, fun U hU hW => ⟨rfl, ⟨by rw [hU], by rw [hU]; exact hPc, va_K.moved hW.alike hK, hDc.weaken (fun _ _ _ _ => trivial), hNW.warm hW⟩, hX.go hW hFc (fun a h1 h2 => by rw [hU]; exact hS.2.1 a h1 h2)⟩⟩ rfl hn hsize hstack (lv_room hW) hdg hf
  intro T hT X
  rcases hr T hT X with ⟨v, st₀, t, T', L, -, -, -, -, -, hq9, -⟩ | ⟨q, st₀, t, T', L, E', ce, h0, X', hL, e1, e2, ⟨u, -, ⟨hE, hP1, hK1, hD1⟩, hF⟩, hce, hcv, hcl, st⟩
  · exact hq9.elim
  · subst hE
    obtain ⟨k1, k2, k3⟩ := vx_keep h0 e1 hS (fun q _ h => hFc q h) hFc hL hF
    rw [← e1] at hP1
    obtain ⟨hP2, hD2⟩ := va_join (wr := wr) (w1 := wc) hP hD isC isR hC hR hn1 hdis k2 hFc hP1 hD1
    obtain ⟨t2, a1, b1⟩ := kx ce q T'.heap (locs ++ L) (hP2.sub isN (fm_of hN)) (hD2.sub isN hn2 hN) k3 (by rw [e1]; exact hce) hcv hcl T' rfl X'
    exact ⟨t2, st.trans a1, b1⟩
end THR
theorem th_a1 : ∀ w ∈ (vx_atS RX5 144 "java/lang/IndexOutOfBoundsException" thN).filter (fun w => !goodWord w), w ∈ thL := by decide +kernel
theorem th_a2 : ∀ w ∈ (vx_atS RX5 50 "java/lang/IllegalArgumentException" thN).filter (fun w => !goodWord w), w ∈ thL := by decide +kernel
theorem th_a3 : ∀ w ∈ (vx_atS RX5 67 "java/lang/IllegalStateException" thN).filter (fun w => !goodWord w), w ∈ thL := by decide +kernel
theorem th_b1 : ∀ w ∈ Cond.classLink RX5 140 "java/lang/IndexOutOfBoundsException" :: Cond.initialized "java/lang/IndexOutOfBoundsException" :: vx_atS RX5 144 "java/lang/IndexOutOfBoundsException" thN, vx_ot w = true := by decide +kernel
theorem th_b2 : ∀ w ∈ Cond.classLink RX5 46 "java/lang/IllegalArgumentException" :: Cond.initialized "java/lang/IllegalArgumentException" :: vx_atS RX5 50 "java/lang/IllegalArgumentException" thN, vx_ot w = true := by decide +kernel
theorem th_b3 : ∀ w ∈ Cond.classLink RX5 63 "java/lang/IllegalStateException" :: Cond.initialized "java/lang/IllegalStateException" :: vx_atS RX5 67 "java/lang/IllegalStateException" thN, vx_ot w = true := by decide +kernel
